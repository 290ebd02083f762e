section
/-! 41.model -/
/-! the model's calls -/
def sI : String := "java/lang/IndexOutOfBoundsException"
def sA : String := "java/lang/IllegalArgumentException"
def sS : String := "java/lang/IllegalStateException"
/-- what the law makes of a throw: its number among those that are caught -/
def tc (a b : String) (r : ARes) : Int32 := match r with
  | .inl _ => 0
  | .inr E => if E = a then 1 else if E = b then 2 else 3
theorem tc_1 {a b : String} : tc a b (.inr a) = 1 := if_pos rfl
theorem tc_2 {a b : String} (h : b ≠ a) : tc a b (.inr b) = 2 := (if_neg h).trans (if_pos rfl)
theorem tc_3 {a b c : String} (h : c ≠ a) (h2 : c ≠ b) : tc a b (.inr c) = 3 := (if_neg h).trans (if_neg h2)
theorem sAI : sA ≠ sI := by decide +kernel
theorem sSI : sS ≠ sI := by decide +kernel
theorem sSA : sS ≠ sA := by decide +kernel
/-- what the model answers -/
def anR (r : ARes) : Option Value := match r with
  | .inl v => v
  | .inr _ => some (.int 0)
def PM (h : AH) (n : Nat) (t : ARes → Int32) (q : ARes × CS) : ARes → AH → Nat → Prop := fun r' h' n' => r' = .inl (anR q.1) ∧ n ≤ n' ∧ RMo h' q.2 (t q.1) ∧ FrM h h' n
theorem pm_x {h p : AH} {n n' : Nat} {t : ARes → Int32} {σ : CS} {E : String} {th : Int32} {ρ : Nat → Nat → Int32} {τ : Nat → Int32} (e : t (.inr E) = th) (pM : MM p ρ τ σ th) (pA : AG ρ τ σ) (pF : FrM h p n) (hn : n ≤ n') : PM h n t (.inr E, σ) (.inl (some (.int 0))) p n' := ⟨rfl, hn, ⟨ρ, τ, e ▸ pM, pA⟩, pF⟩
theorem pm_k {h p : AH} {n n' : Nat} {a b : String} {σ : CS} {v : Option Value} {ρ : Nat → Nat → Int32} {τ : Nat → Int32} (pM : MM p ρ τ σ 0) (pA : AG ρ τ σ) (pF : FrM h p n) (hn : n ≤ n') : PM h n (tc a b) (.inl v, σ) (.inl v) p n' := ⟨rfl, hn, ⟨ρ, τ, pM, pA⟩, pF⟩
/-- what holds of the class's numbers at each call -/
def Iv (σ : CS) : Prop := (∀ k, k < 11 → σ.2.1 k ≤ 12) ∧ σ.2.1 6 = σ.2.1 7 ∧ (∀ k, k < 11 → ∀ j, j < σ.2.1 k → 0 ≤ σ.1 k j ∧ σ.1 k j ≤ 100) ∧ srt (σ.1 3) (σ.2.1 3) ∧ srt (σ.1 6) (σ.2.1 6) ∧ eis (σ.1 4) (σ.2.1 4) ∧ (∀ k, k < 6 → wO σ k < 11) ∧ ∀ k, k < 6 → WI σ k
theorem inB_n {x a b : Int32} (q : ¬ (x < a ∨ b < x)) : inB x a b = true := inB_t (Int32.not_lt.mp (fun g => q (Or.inl g))) (Int32.not_lt.mp (fun g => q (Or.inr g)))
theorem inB_x {x a b : Int32} (q : x < a ∨ b < x) : inB x a b = false := q.elim inB_f1 inB_f2
theorem inB_99 {x : Int32} (q : ¬ (x < 0 ∨ 100 ≤ x)) : inB x 0 99 = true := by
  have h1 : ¬ x < 0 := fun g => q (Or.inl g)
  obtain ⟨j, hj, rfl⟩ := nI_of h1
  exact inB_k (N := 99) (Nat.le_of_not_lt (fun g => q (Or.inr ((nI_leI (a := 100) (by decide +kernel) hj).mpr (by omega))))) (by decide +kernel)
theorem inB_99x {x : Int32} (q : x < 0 ∨ 100 ≤ x) : inB x 0 99 = false := by
  rcases q with q | q
  · exact inB_f1 q
  · by_cases g : x < 0
    · exact inB_f1 g
    · obtain ⟨j, hj, rfl⟩ := nI_of g
      exact inB_f2 (nI_lt (a := 99) (by have := (nI_leI (a := 100) (by decide +kernel) hj).mp q; omega) hj)
theorem nrB_x {a : Int32} (q : a < 0 ∨ nI 11 ≤ a) : nrB a = true := by
  have g : inB a 0 10 = false := no_x (N := 10) (by decide +kernel) q
  rw [nrB, g]
  rfl
theorem nrB_y {k : Nat} (hk : k < 11) (q : kP (kdO k) = false) : nrB (nI k) = true := by rw [nr_k hk, q]; rfl
theorem nrB_k {k : Nat} (hk : k < 11) (q : ¬ kP (kdO k) = false) : nrB (nI k) = false := by
  rw [nr_k hk]
  cases e : kP (kdO k) with
  | false => exact absurd e q
  | true => rfl
theorem full {c : Nat} (hc : c ≤ 12) (q : 12 < nI c + 1) : c = 12 := by
  rw [nI_1] at q
  have := (nI_ltI (a := 12) (by decide +kernel) (by omega)).mp q
  omega
theorem full_n {c : Nat} (hc : c ≤ 12) (q : ¬ 12 < nI c + 1) : c < 12 := roomC hc q
theorem nI12 {c : Nat} (hc : c ≤ 12) : nI c = 12 ↔ c = 12 := nI_eq (b := 12) (by omega) (by decide +kernel)
theorem mkT {b : Bool} (q : ¬ b = false) : b = true := by
  cases b
  · exact absurd rfl q
  · rfl
theorem tk_n {k : Nat} {x : Int32} (h : ¬ x = 100) : tkB k x = true := by unfold tkB; rw [decide_eq_true (show x ≠ 100 from h)]; rfl
theorem tk_t {k : Nat} {x : Int32} (h : kN (kdO k) = true) : tkB k x = true := by unfold tkB; rw [h, Bool.or_true]
theorem nI_m1 {c : Nat} (h : 0 < c) : nI c - 1 = nI (c - 1) := by
  obtain ⟨e, rfl⟩ : ∃ e, c = e + 1 := ⟨c - 1, by omega⟩
  exact nI_pred e
theorem taI_0 {f : Nat → Int32} {c : Nat} (h : 0 < c) (hc : c ≤ 12) : taI f c 0 = f 0 := taI_in (j := 0) h hc
theorem np_r {σ : CS} {a p : Int32} (h : nrB a = true) : npB σ a p = true := by unfold npB; rw [h]; rfl
theorem np_b {σ : CS} {k : Nat} {p : Int32} (hk : k < 11) (hc : σ.2.1 k ≤ 12) (q : p < 0 ∨ nI (σ.2.1 k) ≤ p) : npB σ (nI k) p = true := by
  unfold npB
  rw [nI_clamp (by omega)]
  have e : inB p 0 (nI (σ.2.1 k) - 1) = false := by
    by_cases c0 : σ.2.1 k = 0
    · rw [c0]
      by_cases g : p < 0
      · exact inB_f1 g
      · exact inB_f2 (Int32.lt_of_lt_of_le (b := 0) (by decide +kernel) (Int32.not_lt.mp g))
    · rw [nI_m1 (by omega)]
      exact no_x (N := σ.2.1 k - 1) (by omega) (by rw [show σ.2.1 k - 1 + 1 = σ.2.1 k by omega]; exact q)
  rw [e, Bool.not_false, Bool.or_true]
theorem np_k {σ : CS} {k P : Nat} (hk : k < 11) (h : nrB (nI k) = false) (hc : σ.2.1 k ≤ 12) (hP : P < σ.2.1 k) : npB σ (nI k) (nI P) = false := by
  unfold npB
  rw [h, nI_clamp (by omega), nI_m1 (by omega), inB_k (by omega) (by omega)]
  rfl
/-- things alone are otherwise, and it is TURNED or not -/
theorem MM.rwU {h h' : AH} {ρ : Nat → Nat → Int32} {τ : Nat → Int32} {σ : CS} {th : Int32} {k : Nat} (hM : MM h ρ τ σ th) (hk : k < 11) {r f : Nat → Int32} (e0 : h' (137 + k) = .inl (0, 12, .inl r)) (hF : ∀ i, i ≠ 137 + k → h' i = h i) : MM h' (up ρ k r) τ (sU σ k f (σ.2.1 k) (σ.2.2.1 k) (σ.2.2.2.1 k)) th :=
  hM.shU hk e0 (by rw [hF 148 (by omega), hM.sz, up_ap, up_id]) (by rw [hF 149 (by omega), hM.sf, up_id]) (by rw [hF 156 (by omega), hM.tu, up_id]) (fun i h1 _ _ _ => hF i h1)
theorem MM.rwT {h h' : AH} {ρ : Nat → Nat → Int32} {τ : Nat → Int32} {σ : CS} {th : Int32} {k : Nat} (hM : MM h ρ τ σ th) (hk : k < 11) {r f : Nat → Int32} {t : Int32} (e0 : h' (137 + k) = .inl (0, 12, .inl r)) (e3 : h' 156 = .inl (0, 11, .inl (up σ.2.2.2.1 k t))) (hF : ∀ i, i ≠ 137 + k → i ≠ 156 → h' i = h i) : MM h' (up ρ k r) τ (sU σ k f (σ.2.1 k) (σ.2.2.1 k) t) th :=
  hM.shU hk e0 (by rw [hF 148 (by omega) (by decide +kernel), hM.sz, up_ap, up_id]) (by rw [hF 149 (by omega) (by decide +kernel), hM.sf, up_id]) e3 (fun i h1 _ _ h2 => hF i h1 h2)
theorem idxR (N : Nat) (hN : N < 2 ^ 31) (x : Int32) : (x < 0 ∨ nI N < x) ∨ ∃ k : Nat, k ≤ N ∧ x = nI k := by
  by_cases q : x < 0
  · exact Or.inl (Or.inl q)
  · obtain ⟨j, hj, rfl⟩ := nI_of q
    by_cases g : nI N < nI j
    · exact Or.inl (Or.inr g)
    · exact Or.inr ⟨j, (nI_leI hj hN).mp (Int32.not_lt.mp g), rfl⟩
theorem tk_f {k : Nat} {x : Int32} (h : x = 100) (g : kN (kdO k) = false) : tkB k x = false := by unfold tkB; rw [g, decide_eq_false (fun q => q h)]; rfl
theorem q_size {h : AH} {d bc bs n : Nat} {σ : CS} {th : Int32} {a : Int32} (hR : RMo h σ th) (hI : Iv σ) (hn : 159 ≤ n) (hd : 8 ≤ d) (h1 : 1 ≤ bc) (h2 : 12 ≤ bs)  : SM SR0 MX5_size d bc bs [.ref 135, .int a] h n (PM h n (tc sI sI) (opSize σ a)) := by
  obtain ⟨ρ, τ, hM, hA⟩ := hR
  obtain ⟨G0, hG0, eG0⟩ := hM.out
  refine sm_of pn_OverwalksModel rfl (Nat.le_of_ble_eq_true rfl) ?_
  rcases idxN 11 (by decide +kernel) a with qk1 | ⟨k, hk, rfl⟩
  · refine sw_aload_n (pc' := 1) rfl dX5_size_0 rfl ?_
    refine sw_iload_n (pc' := 2) rfl dX5_size_1 rfl ?_
    refine sw_S (M' := MX5_isNone) (d' := d - 1) (bc' := 0) (bs' := 0) (as := [_]) dX5_size_2 w_1165 ok_X5_isNone (q_isNone (by omega)) (by omega) (Nat.le_of_ble_eq_true rfl) (Nat.zero_le _) (Nat.zero_le _) (fun E h' n' _ z => det_x z) (det_k ?_)
    rw [show inB a 0 10 = false from no_x (N := 10) (by decide +kernel) qk1]
    show SW _ _ _ _ _ _ _ (.int 1 :: _) _ _ _
    refine sw_V (M' := MX5_isStopped__) (d' := d - 1) (bc' := 0) (bs' := 0) (ci := 6) (as := [_]) dX5_size_5 w_1235 ok_X5_isStopped__ (q_isStopped1 (a := true) hM hA (by omega)) hM.ob rfl (by omega) (Nat.le_of_ble_eq_true rfl) (Nat.zero_le _) (Nat.zero_le _) (fun E h' n' _ z => rp_x z) (rp_k (fun p5 p5ρ p5τ p5M p5A p5F => ?_))
    obtain ⟨Gp5, hGp5, eGp5⟩ := p5M.out
    show SW _ _ _ _ _ _ _ (.int 1 :: _) _ _ _
    refine sw_if_eq (pc' := 11) (tgt := 15) rfl dX5_size_8 (by decide +kernel) (fun c8 => ?_) (fun c8 => ?_)
    · exact absurd c8 (by decide +kernel)
    · refine sw_iconst (pc' := 12) (v := 0) rfl dX5_size_11 (by decide +kernel) ?_
      refine sw_goto (tgt := 21) dX5_size_12 (by decide +kernel) ?_
      refine sw_ret (v := some _) ⟨dX5_size_21, _, rfl, rfl⟩ ?_
      rw [opSize, onSh_x qk1]
      exact pm_x tc_1 p5M p5A p5F (Nat.le_refl _)
  have hck := hI.1 k hk
  refine sw_aload_n (pc' := 1) rfl dX5_size_0 rfl ?_
  refine sw_iload_n (pc' := 2) rfl dX5_size_1 rfl ?_
  refine sw_S (M' := MX5_isNone) (d' := d - 1) (bc' := 0) (bs' := 0) (as := [_]) dX5_size_2 w_1165 ok_X5_isNone (q_isNone (by omega)) (by omega) (Nat.le_of_ble_eq_true rfl) (Nat.zero_le _) (Nat.zero_le _) (fun E h' n' _ z => det_x z) (det_k ?_)
  rw [show inB (nI k) 0 10 = true from inB_k (N := 10) (by omega) (by decide +kernel)]
  show SW _ _ _ _ _ _ _ (.int 0 :: _) _ _ _
  refine sw_V (M' := MX5_isStopped__) (d' := d - 1) (bc' := 0) (bs' := 0) (ci := 6) (as := [_]) dX5_size_5 w_1235 ok_X5_isStopped__ (q_isStopped1 (a := false) hM hA (by omega)) hM.ob rfl (by omega) (Nat.le_of_ble_eq_true rfl) (Nat.zero_le _) (Nat.zero_le _) (fun E h' n' _ z => rp_x z) (rp_k (fun p5 p5ρ p5τ p5M p5A p5F => ?_))
  obtain ⟨Gp5, hGp5, eGp5⟩ := p5M.out
  show SW _ _ _ _ _ _ _ (.int 0 :: _) _ _ _
  refine sw_if_eq (pc' := 11) (tgt := 15) rfl dX5_size_8 (by decide +kernel) (fun c8 => ?_) (fun c8 => ?_)
  · refine sw_aload_n (pc' := 16) rfl dX5_size_15 rfl ?_
    refine sw_getf (ci := 6) (k := 4) (pc' := 19) rfl dX5_size_16 (by decide +kernel) w_1117 p5M.ob rfl ?_
    refine sw_iload_n (pc' := 20) rfl dX5_size_19 rfl ?_
    refine sw_iald (j := k) (pc' := 21) rfl dX5_size_20 p5M.sz rfl (by omega) (by decide +kernel) ?_
    refine sw_ret (v := some _) ⟨dX5_size_21, _, rfl, rfl⟩ ?_
    rw [opSize, onSh_k hk]
    exact pm_k p5M p5A p5F (Nat.le_refl _)
  · exact absurd c8 (by decide +kernel)
theorem q_isEmpty {h : AH} {d bc bs n : Nat} {σ : CS} {th : Int32} {a : Int32} (hR : RMo h σ th) (hI : Iv σ) (hn : 159 ≤ n) (hd : 8 ≤ d) (h1 : 1 ≤ bc) (h2 : 12 ≤ bs)  : SM SR0 MX5_isEmpty d bc bs [.ref 135, .int a] h n (PM h n (tc sI sI) (opIsEmpty σ a)) := by
  obtain ⟨ρ, τ, hM, hA⟩ := hR
  obtain ⟨G0, hG0, eG0⟩ := hM.out
  refine sm_of pn_OverwalksModel rfl (Nat.le_of_ble_eq_true rfl) ?_
  rcases idxN 11 (by decide +kernel) a with qk1 | ⟨k, hk, rfl⟩
  · refine sw_aload_n (pc' := 1) rfl dX5_isEmpty_0 rfl ?_
    refine sw_iload_n (pc' := 2) rfl dX5_isEmpty_1 rfl ?_
    refine sw_S (M' := MX5_isNone) (d' := d - 1) (bc' := 0) (bs' := 0) (as := [_]) dX5_isEmpty_2 w_1165 ok_X5_isNone (q_isNone (by omega)) (by omega) (Nat.le_of_ble_eq_true rfl) (Nat.zero_le _) (Nat.zero_le _) (fun E h' n' _ z => det_x z) (det_k ?_)
    rw [show inB a 0 10 = false from no_x (N := 10) (by decide +kernel) qk1]
    show SW _ _ _ _ _ _ _ (.int 1 :: _) _ _ _
    refine sw_V (M' := MX5_isStopped__) (d' := d - 1) (bc' := 0) (bs' := 0) (ci := 6) (as := [_]) dX5_isEmpty_5 w_1235 ok_X5_isStopped__ (q_isStopped1 (a := true) hM hA (by omega)) hM.ob rfl (by omega) (Nat.le_of_ble_eq_true rfl) (Nat.zero_le _) (Nat.zero_le _) (fun E h' n' _ z => rp_x z) (rp_k (fun p5 p5ρ p5τ p5M p5A p5F => ?_))
    obtain ⟨Gp5, hGp5, eGp5⟩ := p5M.out
    show SW _ _ _ _ _ _ _ (.int 1 :: _) _ _ _
    refine sw_if_ne (pc' := 11) (tgt := 24) rfl dX5_isEmpty_8 (by decide +kernel) (fun c8 => ?_) (fun c8 => ?_)
    · refine sw_iconst (pc' := 25) (v := 0) rfl dX5_isEmpty_24 (by decide +kernel) ?_
      refine sw_ret (v := some _) ⟨dX5_isEmpty_25, _, rfl, rfl⟩ ?_
      rw [opIsEmpty, onSh_x qk1]
      exact pm_x tc_1 p5M p5A p5F (Nat.le_refl _)
    · exact absurd c8 (by decide +kernel)
  have hck := hI.1 k hk
  refine sw_aload_n (pc' := 1) rfl dX5_isEmpty_0 rfl ?_
  refine sw_iload_n (pc' := 2) rfl dX5_isEmpty_1 rfl ?_
  refine sw_S (M' := MX5_isNone) (d' := d - 1) (bc' := 0) (bs' := 0) (as := [_]) dX5_isEmpty_2 w_1165 ok_X5_isNone (q_isNone (by omega)) (by omega) (Nat.le_of_ble_eq_true rfl) (Nat.zero_le _) (Nat.zero_le _) (fun E h' n' _ z => det_x z) (det_k ?_)
  rw [show inB (nI k) 0 10 = true from inB_k (N := 10) (by omega) (by decide +kernel)]
  show SW _ _ _ _ _ _ _ (.int 0 :: _) _ _ _
  refine sw_V (M' := MX5_isStopped__) (d' := d - 1) (bc' := 0) (bs' := 0) (ci := 6) (as := [_]) dX5_isEmpty_5 w_1235 ok_X5_isStopped__ (q_isStopped1 (a := false) hM hA (by omega)) hM.ob rfl (by omega) (Nat.le_of_ble_eq_true rfl) (Nat.zero_le _) (Nat.zero_le _) (fun E h' n' _ z => rp_x z) (rp_k (fun p5 p5ρ p5τ p5M p5A p5F => ?_))
  obtain ⟨Gp5, hGp5, eGp5⟩ := p5M.out
  show SW _ _ _ _ _ _ _ (.int 0 :: _) _ _ _
  refine sw_if_ne (pc' := 11) (tgt := 24) rfl dX5_isEmpty_8 (by decide +kernel) (fun c8 => ?_) (fun c8 => ?_)
  · exact absurd c8 (by decide +kernel)
  · refine sw_aload_n (pc' := 12) rfl dX5_isEmpty_11 rfl ?_
    refine sw_getf (ci := 6) (k := 4) (pc' := 15) rfl dX5_isEmpty_12 (by decide +kernel) w_1117 p5M.ob rfl ?_
    refine sw_iload_n (pc' := 16) rfl dX5_isEmpty_15 rfl ?_
    refine sw_iald (j := k) (pc' := 17) rfl dX5_isEmpty_16 p5M.sz rfl (by omega) (by decide +kernel) ?_
    refine sw_if_ne (pc' := 20) (tgt := 24) rfl dX5_isEmpty_17 (by decide +kernel) (fun c17 => ?_) (fun c17 => ?_)
    · refine sw_iconst (pc' := 25) (v := 0) rfl dX5_isEmpty_24 (by decide +kernel) ?_
      refine sw_ret (v := some _) ⟨dX5_isEmpty_25, _, rfl, rfl⟩ ?_
      rw [opIsEmpty, onSh_k hk, decide_eq_false (fun e => c17 (by rw [e]; rfl))]
      exact pm_k p5M p5A p5F (Nat.le_refl _)
    · refine sw_iconst (pc' := 21) (v := 1) rfl dX5_isEmpty_20 (by decide +kernel) ?_
      refine sw_goto (tgt := 25) dX5_isEmpty_21 (by decide +kernel) ?_
      refine sw_ret (v := some _) ⟨dX5_isEmpty_25, _, rfl, rfl⟩ ?_
      rw [opIsEmpty, onSh_k hk, decide_eq_true ((nI_eq (b := 0) (by have := hI.1 k hk; omega) (by decide +kernel)).mp c17)]
      exact pm_k p5M p5A p5F (Nat.le_refl _)
theorem q_has {h : AH} {d bc bs n : Nat} {σ : CS} {th : Int32} {a x : Int32} (hR : RMo h σ th) (hI : Iv σ) (hn : 159 ≤ n) (hd : 8 ≤ d) (h1 : 1 ≤ bc) (h2 : 12 ≤ bs)  : SM SR0 MX5_has d bc bs [.ref 135, .int a, .int x] h n (PM h n (tc sI sA) (opHas σ a x)) := by
  obtain ⟨ρ, τ, hM, hA⟩ := hR
  obtain ⟨G0, hG0, eG0⟩ := hM.out
  refine sm_of pn_OverwalksModel rfl (Nat.le_of_ble_eq_true rfl) ?_
  rcases idxN 11 (by decide +kernel) a with qk1 | ⟨k, hk, rfl⟩
  · refine sw_aload_n (pc' := 1) rfl dX5_has_0 rfl ?_
    refine sw_iload_n (pc' := 2) rfl dX5_has_1 rfl ?_
    refine sw_S (M' := MX5_isNone) (d' := d - 1) (bc' := 0) (bs' := 0) (as := [_]) dX5_has_2 w_1165 ok_X5_isNone (q_isNone (by omega)) (by omega) (Nat.le_of_ble_eq_true rfl) (Nat.zero_le _) (Nat.zero_le _) (fun E h' n' _ z => det_x z) (det_k ?_)
    rw [show inB a 0 10 = false from no_x (N := 10) (by decide +kernel) qk1]
    show SW _ _ _ _ _ _ _ (.int 1 :: _) _ _ _
    refine sw_iload_n (pc' := 6) rfl dX5_has_5 rfl ?_
    refine sw_S (M' := MX5_isNoThing) (d' := d - 1) (bc' := 0) (bs' := 0) (as := [_]) dX5_has_6 w_1171 ok_X5_isNoThing (q_isNoThing (by omega)) (by omega) (Nat.le_of_ble_eq_true rfl) (Nat.zero_le _) (Nat.zero_le _) (fun E h' n' _ z => det_x z) (det_k ?_)
    refine sw_V (M' := MX5_isStopped_) (d' := d - 1) (bc' := 0) (bs' := 0) (ci := 6) (as := [_, _]) dX5_has_9 w_1215 ok_X5_isStopped_ (q_isStopped2 (a := true) (b := (!inB x 0 100)) hM hA (by omega)) hM.ob rfl (by omega) (Nat.le_of_ble_eq_true rfl) (Nat.zero_le _) (Nat.zero_le _) (fun E h' n' _ z => rp_x z) (rp_k (fun p9 p9ρ p9τ p9M p9A p9F => ?_))
    obtain ⟨Gp9, hGp9, eGp9⟩ := p9M.out
    show SW _ _ _ _ _ _ _ (.int 1 :: _) _ _ _
    refine sw_if_eq (pc' := 15) (tgt := 17) rfl dX5_has_12 (by decide +kernel) (fun c12 => ?_) (fun c12 => ?_)
    · exact absurd c12 (by decide +kernel)
    · refine sw_iconst (pc' := 16) (v := 0) rfl dX5_has_15 (by decide +kernel) ?_
      refine sw_ret (v := some _) ⟨dX5_has_16, _, rfl, rfl⟩ ?_
      rw [opHas, onSh_x qk1]
      exact pm_x tc_1 p9M p9A p9F (Nat.le_refl _)
  have hck := hI.1 k hk
  rcases Classical.em (x < 0 ∨ 100 < x) with qx | qx
  · refine sw_aload_n (pc' := 1) rfl dX5_has_0 rfl ?_
    refine sw_iload_n (pc' := 2) rfl dX5_has_1 rfl ?_
    refine sw_S (M' := MX5_isNone) (d' := d - 1) (bc' := 0) (bs' := 0) (as := [_]) dX5_has_2 w_1165 ok_X5_isNone (q_isNone (by omega)) (by omega) (Nat.le_of_ble_eq_true rfl) (Nat.zero_le _) (Nat.zero_le _) (fun E h' n' _ z => det_x z) (det_k ?_)
    rw [show inB (nI k) 0 10 = true from inB_k (N := 10) (by omega) (by decide +kernel)]
    show SW _ _ _ _ _ _ _ (.int 0 :: _) _ _ _
    refine sw_iload_n (pc' := 6) rfl dX5_has_5 rfl ?_
    refine sw_S (M' := MX5_isNoThing) (d' := d - 1) (bc' := 0) (bs' := 0) (as := [_]) dX5_has_6 w_1171 ok_X5_isNoThing (q_isNoThing (by omega)) (by omega) (Nat.le_of_ble_eq_true rfl) (Nat.zero_le _) (Nat.zero_le _) (fun E h' n' _ z => det_x z) (det_k ?_)
    rw [show inB x 0 100 = false from inB_x qx]
    show SW _ _ _ _ _ _ _ (.int 1 :: _) _ _ _
    refine sw_V (M' := MX5_isStopped_) (d' := d - 1) (bc' := 0) (bs' := 0) (ci := 6) (as := [_, _]) dX5_has_9 w_1215 ok_X5_isStopped_ (q_isStopped2 (a := false) (b := true) hM hA (by omega)) hM.ob rfl (by omega) (Nat.le_of_ble_eq_true rfl) (Nat.zero_le _) (Nat.zero_le _) (fun E h' n' _ z => rp_x z) (rp_k (fun p9 p9ρ p9τ p9M p9A p9F => ?_))
    obtain ⟨Gp9, hGp9, eGp9⟩ := p9M.out
    show SW _ _ _ _ _ _ _ (.int 1 :: _) _ _ _
    refine sw_if_eq (pc' := 15) (tgt := 17) rfl dX5_has_12 (by decide +kernel) (fun c12 => ?_) (fun c12 => ?_)
    · exact absurd c12 (by decide +kernel)
    · refine sw_iconst (pc' := 16) (v := 0) rfl dX5_has_15 (by decide +kernel) ?_
      refine sw_ret (v := some _) ⟨dX5_has_16, _, rfl, rfl⟩ ?_
      rw [opHas, onSh_k hk, if_pos qx]
      exact pm_x (tc_2 sAI) p9M p9A p9F (Nat.le_refl _)
  refine sw_aload_n (pc' := 1) rfl dX5_has_0 rfl ?_
  refine sw_iload_n (pc' := 2) rfl dX5_has_1 rfl ?_
  refine sw_S (M' := MX5_isNone) (d' := d - 1) (bc' := 0) (bs' := 0) (as := [_]) dX5_has_2 w_1165 ok_X5_isNone (q_isNone (by omega)) (by omega) (Nat.le_of_ble_eq_true rfl) (Nat.zero_le _) (Nat.zero_le _) (fun E h' n' _ z => det_x z) (det_k ?_)
  rw [show inB (nI k) 0 10 = true from inB_k (N := 10) (by omega) (by decide +kernel)]
  show SW _ _ _ _ _ _ _ (.int 0 :: _) _ _ _
  refine sw_iload_n (pc' := 6) rfl dX5_has_5 rfl ?_
  refine sw_S (M' := MX5_isNoThing) (d' := d - 1) (bc' := 0) (bs' := 0) (as := [_]) dX5_has_6 w_1171 ok_X5_isNoThing (q_isNoThing (by omega)) (by omega) (Nat.le_of_ble_eq_true rfl) (Nat.zero_le _) (Nat.zero_le _) (fun E h' n' _ z => det_x z) (det_k ?_)
  rw [show inB x 0 100 = true from inB_n qx]
  show SW _ _ _ _ _ _ _ (.int 0 :: _) _ _ _
  refine sw_V (M' := MX5_isStopped_) (d' := d - 1) (bc' := 0) (bs' := 0) (ci := 6) (as := [_, _]) dX5_has_9 w_1215 ok_X5_isStopped_ (q_isStopped2 (a := false) (b := false) hM hA (by omega)) hM.ob rfl (by omega) (Nat.le_of_ble_eq_true rfl) (Nat.zero_le _) (Nat.zero_le _) (fun E h' n' _ z => rp_x z) (rp_k (fun p9 p9ρ p9τ p9M p9A p9F => ?_))
  obtain ⟨Gp9, hGp9, eGp9⟩ := p9M.out
  show SW _ _ _ _ _ _ _ (.int 0 :: _) _ _ _
  refine sw_if_eq (pc' := 15) (tgt := 17) rfl dX5_has_12 (by decide +kernel) (fun c12 => ?_) (fun c12 => ?_)
  · refine sw_iload_n (pc' := 18) rfl dX5_has_17 rfl ?_
    refine sw_bipush (pc' := 20) (v := 100) rfl dX5_has_18 (by decide +kernel) ?_
    refine sw_icmp_ne (pc' := 23) (tgt := 37) rfl dX5_has_20 (by decide +kernel) (fun c20 => ?_) (fun c20 => ?_)
    · refine sw_aload_n (pc' := 38) rfl dX5_has_37 rfl ?_
      refine sw_iload_n (pc' := 39) rfl dX5_has_38 rfl ?_
      refine sw_iload_n (pc' := 40) rfl dX5_has_39 rfl ?_
      refine sw_V (M' := MX5_count) (d' := d - 1) (bc' := 0) (bs' := 0) (ci := 6) (as := [_, _]) dX5_has_40 w_1192 ok_X5_count (q_count p9M p9A (k := k) (by omega) (hI.1 k (by omega)) (by omega)) p9M.ob rfl (by omega) (Nat.le_of_ble_eq_true rfl) (Nat.zero_le _) (Nat.zero_le _) (fun E h' n' _ z => det_x z) (det_k ?_)
      have hl40 := coN_le (f := σ.1 k) (x := x) (m := σ.2.1 k) (j := 0)
      refine sw_if_le (pc' := 46) (tgt := 50) rfl dX5_has_43 (by decide +kernel) (fun c43 => ?_) (fun c43 => ?_)
      · refine sw_iconst (pc' := 51) (v := 0) rfl dX5_has_50 (by decide +kernel) ?_
        refine sw_S (M' := MX5_one) (d' := d - 1) (bc' := 0) (bs' := 0) (as := [_]) dX5_has_51 w_1196 ok_X5_one (q_one (q := false)) (by omega) (Nat.le_of_ble_eq_true rfl) (Nat.zero_le _) (Nat.zero_le _) (fun E h' n' _ z => det_x z) (det_k ?_)
        show SW _ _ _ _ _ _ _ (.int 0 :: _) _ _ _
        refine sw_ret (v := some _) ⟨dX5_has_54, _, rfl, rfl⟩ ?_
        rw [opHas, onSh_k hk, if_neg qx, if_neg (fun e => Bool.noConfusion (e.symm.trans (tk_n c20))), fp_of_co (fun g => absurd ((nI_gt0 (by have := hI.1 k hk; omega)).mpr g) (Int32.not_lt.mpr c43))]
        exact pm_k p9M p9A p9F (Nat.le_refl _)
      · refine sw_iconst (pc' := 47) (v := 1) rfl dX5_has_46 (by decide +kernel) ?_
        refine sw_goto (tgt := 51) dX5_has_47 (by decide +kernel) ?_
        refine sw_S (M' := MX5_one) (d' := d - 1) (bc' := 0) (bs' := 0) (as := [_]) dX5_has_51 w_1196 ok_X5_one (q_one (q := true)) (by omega) (Nat.le_of_ble_eq_true rfl) (Nat.zero_le _) (Nat.zero_le _) (fun E h' n' _ z => det_x z) (det_k ?_)
        show SW _ _ _ _ _ _ _ (.int 1 :: _) _ _ _
        refine sw_ret (v := some _) ⟨dX5_has_54, _, rfl, rfl⟩ ?_
        rw [opHas, onSh_k hk, if_neg qx, if_neg (fun e => Bool.noConfusion (e.symm.trans (tk_n c20))), fp_of_co1 ((nI_gt0 (by have := hI.1 k hk; omega)).mp (Int32.not_le.mp c43))]
        exact pm_k p9M p9A p9F (Nat.le_refl _)
    · refine sw_iload_n (pc' := 24) rfl dX5_has_23 rfl ?_
      refine sw_S (M' := MX5_takesNothing) (d' := d - 1) (bc' := 0) (bs' := 0) (as := [_]) dX5_has_24 w_1181 ok_X5_takesNothing (q_takesNothing (by omega)) (by omega) (Nat.le_of_ble_eq_true rfl) (Nat.zero_le _) (Nat.zero_le _) (fun E h' n' _ z => det_x z) (det_k ?_)
      rw [tn_k (k := k) (by omega)]
      refine sw_if_ne (pc' := 30) (tgt := 37) rfl dX5_has_27 (by decide +kernel) (fun c27 => ?_) (fun c27 => ?_)
      · refine sw_aload_n (pc' := 38) rfl dX5_has_37 rfl ?_
        refine sw_iload_n (pc' := 39) rfl dX5_has_38 rfl ?_
        refine sw_iload_n (pc' := 40) rfl dX5_has_39 rfl ?_
        refine sw_V (M' := MX5_count) (d' := d - 1) (bc' := 0) (bs' := 0) (ci := 6) (as := [_, _]) dX5_has_40 w_1192 ok_X5_count (q_count p9M p9A (k := k) (by omega) (hI.1 k (by omega)) (by omega)) p9M.ob rfl (by omega) (Nat.le_of_ble_eq_true rfl) (Nat.zero_le _) (Nat.zero_le _) (fun E h' n' _ z => det_x z) (det_k ?_)
        have hl40 := coN_le (f := σ.1 k) (x := x) (m := σ.2.1 k) (j := 0)
        refine sw_if_le (pc' := 46) (tgt := 50) rfl dX5_has_43 (by decide +kernel) (fun c43 => ?_) (fun c43 => ?_)
        · refine sw_iconst (pc' := 51) (v := 0) rfl dX5_has_50 (by decide +kernel) ?_
          refine sw_S (M' := MX5_one) (d' := d - 1) (bc' := 0) (bs' := 0) (as := [_]) dX5_has_51 w_1196 ok_X5_one (q_one (q := false)) (by omega) (Nat.le_of_ble_eq_true rfl) (Nat.zero_le _) (Nat.zero_le _) (fun E h' n' _ z => det_x z) (det_k ?_)
          show SW _ _ _ _ _ _ _ (.int 0 :: _) _ _ _
          refine sw_ret (v := some _) ⟨dX5_has_54, _, rfl, rfl⟩ ?_
          rw [opHas, onSh_k hk, if_neg qx, if_neg (fun e => Bool.noConfusion (e.symm.trans (tk_t (bI_1 c27)))), fp_of_co (fun g => absurd ((nI_gt0 (by have := hI.1 k hk; omega)).mpr g) (Int32.not_lt.mpr c43))]
          exact pm_k p9M p9A p9F (Nat.le_refl _)
        · refine sw_iconst (pc' := 47) (v := 1) rfl dX5_has_46 (by decide +kernel) ?_
          refine sw_goto (tgt := 51) dX5_has_47 (by decide +kernel) ?_
          refine sw_S (M' := MX5_one) (d' := d - 1) (bc' := 0) (bs' := 0) (as := [_]) dX5_has_51 w_1196 ok_X5_one (q_one (q := true)) (by omega) (Nat.le_of_ble_eq_true rfl) (Nat.zero_le _) (Nat.zero_le _) (fun E h' n' _ z => det_x z) (det_k ?_)
          show SW _ _ _ _ _ _ _ (.int 1 :: _) _ _ _
          refine sw_ret (v := some _) ⟨dX5_has_54, _, rfl, rfl⟩ ?_
          rw [opHas, onSh_k hk, if_neg qx, if_neg (fun e => Bool.noConfusion (e.symm.trans (tk_t (bI_1 c27)))), fp_of_co1 ((nI_gt0 (by have := hI.1 k hk; omega)).mp (Int32.not_le.mp c43))]
          exact pm_k p9M p9A p9F (Nat.le_refl _)
      · refine sw_aload_n (pc' := 31) rfl dX5_has_30 rfl ?_
        refine sw_V (M' := MX5_no) (d' := d - 1) (bc' := 0) (bs' := 0) (ci := 6) (as := []) dX5_has_31 w_1184 ok_X5_no (q_no p9M p9A) p9M.ob rfl (by omega) (Nat.le_of_ble_eq_true rfl) (Nat.zero_le _) (Nat.zero_le _) (fun E h' n' _ z => rp_x z) (rp_k (fun p31 p31ρ p31τ p31M p31A p31F => ?_))
        obtain ⟨Gp31, hGp31, eGp31⟩ := p31M.out
        refine sw_goto (tgt := 54) dX5_has_34 (by decide +kernel) ?_
        refine sw_ret (v := some _) ⟨dX5_has_54, _, rfl, rfl⟩ ?_
        rw [opHas, onSh_k hk, if_neg qx, if_pos (tk_f c20 (bI_0 c27))]
        exact pm_k p31M p31A (p9F.tr p31F (Nat.le_refl _)) (Nat.le_refl _)
  · exact absurd c12 (by decide +kernel)
theorem q_often {h : AH} {d bc bs n : Nat} {σ : CS} {th : Int32} {a x : Int32} (hR : RMo h σ th) (hI : Iv σ) (hn : 159 ≤ n) (hd : 8 ≤ d) (h1 : 1 ≤ bc) (h2 : 12 ≤ bs)  : SM SR0 MX5_often d bc bs [.ref 135, .int a, .int x] h n (PM h n (tc sI sA) (opOften σ a x)) := by
  obtain ⟨ρ, τ, hM, hA⟩ := hR
  obtain ⟨G0, hG0, eG0⟩ := hM.out
  refine sm_of pn_OverwalksModel rfl (Nat.le_of_ble_eq_true rfl) ?_
  rcases idxN 11 (by decide +kernel) a with qk1 | ⟨k, hk, rfl⟩
  · refine sw_aload_n (pc' := 1) rfl dX5_often_0 rfl ?_
    refine sw_iload_n (pc' := 2) rfl dX5_often_1 rfl ?_
    refine sw_S (M' := MX5_isNone) (d' := d - 1) (bc' := 0) (bs' := 0) (as := [_]) dX5_often_2 w_1165 ok_X5_isNone (q_isNone (by omega)) (by omega) (Nat.le_of_ble_eq_true rfl) (Nat.zero_le _) (Nat.zero_le _) (fun E h' n' _ z => det_x z) (det_k ?_)
    rw [show inB a 0 10 = false from no_x (N := 10) (by decide +kernel) qk1]
    show SW _ _ _ _ _ _ _ (.int 1 :: _) _ _ _
    refine sw_iload_n (pc' := 6) rfl dX5_often_5 rfl ?_
    refine sw_S (M' := MX5_isNoThing) (d' := d - 1) (bc' := 0) (bs' := 0) (as := [_]) dX5_often_6 w_1171 ok_X5_isNoThing (q_isNoThing (by omega)) (by omega) (Nat.le_of_ble_eq_true rfl) (Nat.zero_le _) (Nat.zero_le _) (fun E h' n' _ z => det_x z) (det_k ?_)
    refine sw_V (M' := MX5_isStopped_) (d' := d - 1) (bc' := 0) (bs' := 0) (ci := 6) (as := [_, _]) dX5_often_9 w_1215 ok_X5_isStopped_ (q_isStopped2 (a := true) (b := (!inB x 0 100)) hM hA (by omega)) hM.ob rfl (by omega) (Nat.le_of_ble_eq_true rfl) (Nat.zero_le _) (Nat.zero_le _) (fun E h' n' _ z => rp_x z) (rp_k (fun p9 p9ρ p9τ p9M p9A p9F => ?_))
    obtain ⟨Gp9, hGp9, eGp9⟩ := p9M.out
    show SW _ _ _ _ _ _ _ (.int 1 :: _) _ _ _
    refine sw_if_eq (pc' := 15) (tgt := 19) rfl dX5_often_12 (by decide +kernel) (fun c12 => ?_) (fun c12 => ?_)
    · exact absurd c12 (by decide +kernel)
    · refine sw_iconst (pc' := 16) (v := 0) rfl dX5_often_15 (by decide +kernel) ?_
      refine sw_goto (tgt := 25) dX5_often_16 (by decide +kernel) ?_
      refine sw_ret (v := some _) ⟨dX5_often_25, _, rfl, rfl⟩ ?_
      rw [opOften, onSh_x qk1]
      exact pm_x tc_1 p9M p9A p9F (Nat.le_refl _)
  have hck := hI.1 k hk
  rcases Classical.em (x < 0 ∨ 100 < x) with qx | qx
  · refine sw_aload_n (pc' := 1) rfl dX5_often_0 rfl ?_
    refine sw_iload_n (pc' := 2) rfl dX5_often_1 rfl ?_
    refine sw_S (M' := MX5_isNone) (d' := d - 1) (bc' := 0) (bs' := 0) (as := [_]) dX5_often_2 w_1165 ok_X5_isNone (q_isNone (by omega)) (by omega) (Nat.le_of_ble_eq_true rfl) (Nat.zero_le _) (Nat.zero_le _) (fun E h' n' _ z => det_x z) (det_k ?_)
    rw [show inB (nI k) 0 10 = true from inB_k (N := 10) (by omega) (by decide +kernel)]
    show SW _ _ _ _ _ _ _ (.int 0 :: _) _ _ _
    refine sw_iload_n (pc' := 6) rfl dX5_often_5 rfl ?_
    refine sw_S (M' := MX5_isNoThing) (d' := d - 1) (bc' := 0) (bs' := 0) (as := [_]) dX5_often_6 w_1171 ok_X5_isNoThing (q_isNoThing (by omega)) (by omega) (Nat.le_of_ble_eq_true rfl) (Nat.zero_le _) (Nat.zero_le _) (fun E h' n' _ z => det_x z) (det_k ?_)
    rw [show inB x 0 100 = false from inB_x qx]
    show SW _ _ _ _ _ _ _ (.int 1 :: _) _ _ _
    refine sw_V (M' := MX5_isStopped_) (d' := d - 1) (bc' := 0) (bs' := 0) (ci := 6) (as := [_, _]) dX5_often_9 w_1215 ok_X5_isStopped_ (q_isStopped2 (a := false) (b := true) hM hA (by omega)) hM.ob rfl (by omega) (Nat.le_of_ble_eq_true rfl) (Nat.zero_le _) (Nat.zero_le _) (fun E h' n' _ z => rp_x z) (rp_k (fun p9 p9ρ p9τ p9M p9A p9F => ?_))
    obtain ⟨Gp9, hGp9, eGp9⟩ := p9M.out
    show SW _ _ _ _ _ _ _ (.int 1 :: _) _ _ _
    refine sw_if_eq (pc' := 15) (tgt := 19) rfl dX5_often_12 (by decide +kernel) (fun c12 => ?_) (fun c12 => ?_)
    · exact absurd c12 (by decide +kernel)
    · refine sw_iconst (pc' := 16) (v := 0) rfl dX5_often_15 (by decide +kernel) ?_
      refine sw_goto (tgt := 25) dX5_often_16 (by decide +kernel) ?_
      refine sw_ret (v := some _) ⟨dX5_often_25, _, rfl, rfl⟩ ?_
      rw [opOften, onSh_k hk, if_pos qx]
      exact pm_x (tc_2 sAI) p9M p9A p9F (Nat.le_refl _)
  refine sw_aload_n (pc' := 1) rfl dX5_often_0 rfl ?_
  refine sw_iload_n (pc' := 2) rfl dX5_often_1 rfl ?_
  refine sw_S (M' := MX5_isNone) (d' := d - 1) (bc' := 0) (bs' := 0) (as := [_]) dX5_often_2 w_1165 ok_X5_isNone (q_isNone (by omega)) (by omega) (Nat.le_of_ble_eq_true rfl) (Nat.zero_le _) (Nat.zero_le _) (fun E h' n' _ z => det_x z) (det_k ?_)
  rw [show inB (nI k) 0 10 = true from inB_k (N := 10) (by omega) (by decide +kernel)]
  show SW _ _ _ _ _ _ _ (.int 0 :: _) _ _ _
  refine sw_iload_n (pc' := 6) rfl dX5_often_5 rfl ?_
  refine sw_S (M' := MX5_isNoThing) (d' := d - 1) (bc' := 0) (bs' := 0) (as := [_]) dX5_often_6 w_1171 ok_X5_isNoThing (q_isNoThing (by omega)) (by omega) (Nat.le_of_ble_eq_true rfl) (Nat.zero_le _) (Nat.zero_le _) (fun E h' n' _ z => det_x z) (det_k ?_)
  rw [show inB x 0 100 = true from inB_n qx]
  show SW _ _ _ _ _ _ _ (.int 0 :: _) _ _ _
  refine sw_V (M' := MX5_isStopped_) (d' := d - 1) (bc' := 0) (bs' := 0) (ci := 6) (as := [_, _]) dX5_often_9 w_1215 ok_X5_isStopped_ (q_isStopped2 (a := false) (b := false) hM hA (by omega)) hM.ob rfl (by omega) (Nat.le_of_ble_eq_true rfl) (Nat.zero_le _) (Nat.zero_le _) (fun E h' n' _ z => rp_x z) (rp_k (fun p9 p9ρ p9τ p9M p9A p9F => ?_))
  obtain ⟨Gp9, hGp9, eGp9⟩ := p9M.out
  show SW _ _ _ _ _ _ _ (.int 0 :: _) _ _ _
  refine sw_if_eq (pc' := 15) (tgt := 19) rfl dX5_often_12 (by decide +kernel) (fun c12 => ?_) (fun c12 => ?_)
  · refine sw_aload_n (pc' := 20) rfl dX5_often_19 rfl ?_
    refine sw_iload_n (pc' := 21) rfl dX5_often_20 rfl ?_
    refine sw_iload_n (pc' := 22) rfl dX5_often_21 rfl ?_
    refine sw_V (M' := MX5_count) (d' := d - 1) (bc' := 0) (bs' := 0) (ci := 6) (as := [_, _]) dX5_often_22 w_1192 ok_X5_count (q_count p9M p9A (k := k) (by omega) (hI.1 k (by omega)) (by omega)) p9M.ob rfl (by omega) (Nat.le_of_ble_eq_true rfl) (Nat.zero_le _) (Nat.zero_le _) (fun E h' n' _ z => det_x z) (det_k ?_)
    have hl22 := coN_le (f := σ.1 k) (x := x) (m := σ.2.1 k) (j := 0)
    refine sw_ret (v := some _) ⟨dX5_often_25, _, rfl, rfl⟩ ?_
    rw [opOften, onSh_k hk, if_neg qx]
    exact pm_k p9M p9A p9F (Nat.le_refl _)
  · exact absurd c12 (by decide +kernel)
theorem q_first {h : AH} {d bc bs n : Nat} {σ : CS} {th : Int32} {a y : Int32} (hR : RMo h σ th) (hI : Iv σ) (hn : 159 ≤ n) (hd : 8 ≤ d) (h1 : 1 ≤ bc) (h2 : 12 ≤ bs)  : SM SR0 MX5_first d bc bs [.ref 135, .int a, .int y] h n (PM h n (tc sI sI) (opFirst σ a y)) := by
  obtain ⟨ρ, τ, hM, hA⟩ := hR
  obtain ⟨G0, hG0, eG0⟩ := hM.out
  refine sm_of pn_OverwalksModel rfl (Nat.le_of_ble_eq_true rfl) ?_
  rcases idxN 11 (by decide +kernel) a with qk1 | ⟨k, hk, rfl⟩
  · refine sw_aload_n (pc' := 1) rfl dX5_first_0 rfl ?_
    refine sw_iload_n (pc' := 2) rfl dX5_first_1 rfl ?_
    refine sw_S (M' := MX5_isNone) (d' := d - 1) (bc' := 0) (bs' := 0) (as := [_]) dX5_first_2 w_1165 ok_X5_isNone (q_isNone (by omega)) (by omega) (Nat.le_of_ble_eq_true rfl) (Nat.zero_le _) (Nat.zero_le _) (fun E h' n' _ z => det_x z) (det_k ?_)
    rw [show inB a 0 10 = false from no_x (N := 10) (by decide +kernel) qk1]
    show SW _ _ _ _ _ _ _ (.int 1 :: _) _ _ _
    refine sw_V (M' := MX5_isStopped__) (d' := d - 1) (bc' := 0) (bs' := 0) (ci := 6) (as := [_]) dX5_first_5 w_1235 ok_X5_isStopped__ (q_isStopped1 (a := true) hM hA (by omega)) hM.ob rfl (by omega) (Nat.le_of_ble_eq_true rfl) (Nat.zero_le _) (Nat.zero_le _) (fun E h' n' _ z => rp_x z) (rp_k (fun p5 p5ρ p5τ p5M p5A p5F => ?_))
    obtain ⟨Gp5, hGp5, eGp5⟩ := p5M.out
    show SW _ _ _ _ _ _ _ (.int 1 :: _) _ _ _
    refine sw_if_eq (pc' := 11) (tgt := 13) rfl dX5_first_8 (by decide +kernel) (fun c8 => ?_) (fun c8 => ?_)
    · exact absurd c8 (by decide +kernel)
    · refine sw_iconst (pc' := 12) (v := 0) rfl dX5_first_11 (by decide +kernel) ?_
      refine sw_ret (v := some _) ⟨dX5_first_12, _, rfl, rfl⟩ ?_
      rw [opFirst, onSh_x qk1]
      exact pm_x tc_1 p5M p5A p5F (Nat.le_refl _)
  have hck := hI.1 k hk
  refine sw_aload_n (pc' := 1) rfl dX5_first_0 rfl ?_
  refine sw_iload_n (pc' := 2) rfl dX5_first_1 rfl ?_
  refine sw_S (M' := MX5_isNone) (d' := d - 1) (bc' := 0) (bs' := 0) (as := [_]) dX5_first_2 w_1165 ok_X5_isNone (q_isNone (by omega)) (by omega) (Nat.le_of_ble_eq_true rfl) (Nat.zero_le _) (Nat.zero_le _) (fun E h' n' _ z => det_x z) (det_k ?_)
  rw [show inB (nI k) 0 10 = true from inB_k (N := 10) (by omega) (by decide +kernel)]
  show SW _ _ _ _ _ _ _ (.int 0 :: _) _ _ _
  refine sw_V (M' := MX5_isStopped__) (d' := d - 1) (bc' := 0) (bs' := 0) (ci := 6) (as := [_]) dX5_first_5 w_1235 ok_X5_isStopped__ (q_isStopped1 (a := false) hM hA (by omega)) hM.ob rfl (by omega) (Nat.le_of_ble_eq_true rfl) (Nat.zero_le _) (Nat.zero_le _) (fun E h' n' _ z => rp_x z) (rp_k (fun p5 p5ρ p5τ p5M p5A p5F => ?_))
  obtain ⟨Gp5, hGp5, eGp5⟩ := p5M.out
  show SW _ _ _ _ _ _ _ (.int 0 :: _) _ _ _
  refine sw_if_eq (pc' := 11) (tgt := 13) rfl dX5_first_8 (by decide +kernel) (fun c8 => ?_) (fun c8 => ?_)
  · refine sw_aload_n (pc' := 14) rfl dX5_first_13 rfl ?_
    refine sw_getf (ci := 6) (k := 4) (pc' := 17) rfl dX5_first_14 (by decide +kernel) w_1117 p5M.ob rfl ?_
    refine sw_iload_n (pc' := 18) rfl dX5_first_17 rfl ?_
    refine sw_iald (j := k) (pc' := 19) rfl dX5_first_18 p5M.sz rfl (by omega) (by decide +kernel) ?_
    refine sw_if_ne (pc' := 22) (tgt := 29) rfl dX5_first_19 (by decide +kernel) (fun c19 => ?_) (fun c19 => ?_)
    · have hp : 0 < σ.2.1 k := Nat.pos_of_ne_zero (fun e => c19 (by rw [e]; rfl))
      refine sw_aload_n (pc' := 30) rfl dX5_first_29 rfl ?_
      refine sw_getf (ci := 6) (k := 3) (pc' := 33) rfl dX5_first_30 (by decide +kernel) w_1116 p5M.ob rfl ?_
      refine sw_iload_n (pc' := 34) rfl dX5_first_33 rfl ?_
      refine sw_aald (j := k) (pc' := 35) rfl dX5_first_34 hGp5 (by decide +kernel) (by decide +kernel) rfl (by omega) (by decide +kernel) (eGp5 k (by omega)) ?_
      refine sw_iload_n (pc' := 36) rfl dX5_first_35 rfl ?_
      refine sw_if_eq (pc' := 39) (tgt := 50) rfl dX5_first_36 (by decide +kernel) (fun c36 => ?_) (fun c36 => ?_)
      · refine sw_iconst (pc' := 51) (v := 0) rfl dX5_first_50 (by decide +kernel) ?_
        refine sw_iald (j := 0) (pc' := 52) rfl dX5_first_51 (p5M.row (k := k) (by omega)) rfl (by omega) (by decide +kernel) ?_
        rw [p5A.1 k (by omega) 0 (by omega)]
        refine sw_ret (v := some _) ⟨dX5_first_52, _, rfl, rfl⟩ ?_
        rw [opFirst, onSh_k hk, if_neg (fun e => c19 (by rw [e]; rfl)), if_pos c36, taI_0 (by omega) (hI.1 k hk)]
        exact pm_k p5M p5A p5F (Nat.le_refl _)
      · refine sw_aload_n (pc' := 40) rfl dX5_first_39 rfl ?_
        refine sw_getf (ci := 6) (k := 4) (pc' := 43) rfl dX5_first_40 (by decide +kernel) w_1117 p5M.ob rfl ?_
        refine sw_iload_n (pc' := 44) rfl dX5_first_43 rfl ?_
        refine sw_iald (j := k) (pc' := 45) rfl dX5_first_44 p5M.sz rfl (by omega) (by decide +kernel) ?_
        refine sw_iconst (pc' := 46) (v := 1) rfl dX5_first_45 (by decide +kernel) ?_
        refine sw_isub (pc' := 47) rfl dX5_first_46 ?_
        refine sw_goto (tgt := 51) dX5_first_47 (by decide +kernel) ?_
        refine sw_iald (j := σ.2.1 k - 1) (pc' := 52) rfl dX5_first_51 (p5M.row (k := k) (by omega)) (nI_m1 hp) (by omega) (by decide +kernel) ?_
        rw [p5A.1 k (by omega) (σ.2.1 k - 1) (by omega)]
        refine sw_ret (v := some _) ⟨dX5_first_52, _, rfl, rfl⟩ ?_
        rw [opFirst, onSh_k hk, if_neg (fun e => c19 (by rw [e]; rfl)), if_neg c36, nI_m1 hp, taI_in (by omega) (hI.1 k hk)]
        exact pm_k p5M p5A p5F (Nat.le_refl _)
    · refine sw_aload_n (pc' := 23) rfl dX5_first_22 rfl ?_
      refine sw_V (M' := MX5_no) (d' := d - 1) (bc' := 0) (bs' := 0) (ci := 6) (as := []) dX5_first_23 w_1184 ok_X5_no (q_no p5M p5A) p5M.ob rfl (by omega) (Nat.le_of_ble_eq_true rfl) (Nat.zero_le _) (Nat.zero_le _) (fun E h' n' _ z => rp_x z) (rp_k (fun p23 p23ρ p23τ p23M p23A p23F => ?_))
      obtain ⟨Gp23, hGp23, eGp23⟩ := p23M.out
      refine sw_goto (tgt := 52) dX5_first_26 (by decide +kernel) ?_
      refine sw_ret (v := some _) ⟨dX5_first_52, _, rfl, rfl⟩ ?_
      rw [opFirst, onSh_k hk, if_pos (show σ.2.1 k = 0 from (nI_eq (b := 0) (by have := hI.1 k hk; omega) (by decide +kernel)).mp c19)]
      exact pm_k p23M p23A (p5F.tr p23F (Nat.le_refl _)) (Nat.le_refl _)
  · exact absurd c8 (by decide +kernel)
theorem q_put {h : AH} {d bc bs n : Nat} {σ : CS} {th : Int32} {a x : Int32} (hR : RMo h σ th) (hI : Iv σ) (hn : 159 ≤ n) (hd : 8 ≤ d) (h1 : 1 ≤ bc) (h2 : 12 ≤ bs)  : SM SR0 MX5_put d bc bs [.ref 135, .int a, .int x] h n (PM h n (tc sI sA) (opPut σ a x)) := by
  obtain ⟨ρ, τ, hM, hA⟩ := hR
  obtain ⟨G0, hG0, eG0⟩ := hM.out
  refine sm_of pn_OverwalksModel rfl (Nat.le_of_ble_eq_true rfl) ?_
  rcases idxN 11 (by decide +kernel) a with qk1 | ⟨k, hk, rfl⟩
  · refine sw_aload_n (pc' := 1) rfl dX5_put_0 rfl ?_
    refine sw_iload_n (pc' := 2) rfl dX5_put_1 rfl ?_
    refine sw_S (M' := MX5_isNone) (d' := d - 1) (bc' := 0) (bs' := 0) (as := [_]) dX5_put_2 w_1165 ok_X5_isNone (q_isNone (by omega)) (by omega) (Nat.le_of_ble_eq_true rfl) (Nat.zero_le _) (Nat.zero_le _) (fun E h' n' _ z => det_x z) (det_k ?_)
    rw [show inB a 0 10 = false from no_x (N := 10) (by decide +kernel) qk1]
    show SW _ _ _ _ _ _ _ (.int 1 :: _) _ _ _
    refine sw_iload_n (pc' := 6) rfl dX5_put_5 rfl ?_
    refine sw_S (M' := MX5_isNoThing) (d' := d - 1) (bc' := 0) (bs' := 0) (as := [_]) dX5_put_6 w_1171 ok_X5_isNoThing (q_isNoThing (by omega)) (by omega) (Nat.le_of_ble_eq_true rfl) (Nat.zero_le _) (Nat.zero_le _) (fun E h' n' _ z => det_x z) (det_k ?_)
    refine sw_iload_n (pc' := 10) rfl dX5_put_9 rfl ?_
    refine sw_S (M' := MX5_isNone) (d' := d - 1) (bc' := 0) (bs' := 0) (as := [_]) dX5_put_10 w_1165 ok_X5_isNone (q_isNone (by omega)) (by omega) (Nat.le_of_ble_eq_true rfl) (Nat.zero_le _) (Nat.zero_le _) (fun E h' n' _ z => det_x z) (det_k ?_)
    rw [show inB a 0 10 = false from no_x (N := 10) (by decide +kernel) qk1]
    show SW _ _ _ _ _ _ _ (.int 1 :: _) _ _ _
    refine sw_if_ne (pc' := 16) (tgt := 31) rfl dX5_put_13 (by decide +kernel) (fun c13 => ?_) (fun c13 => ?_)
    · refine sw_iconst (pc' := 32) (v := 0) rfl dX5_put_31 (by decide +kernel) ?_
      refine sw_V (M' := MX5_isStopped) (d' := d - 1) (bc' := 0) (bs' := 0) (ci := 6) (as := [_, _, _]) dX5_put_32 w_1174 ok_X5_isStopped (q_isStopped (a := true) (b := (!inB x 0 100)) (c := false) hM hA) hM.ob rfl (by omega) (Nat.le_of_ble_eq_true rfl) (Nat.zero_le _) (Nat.zero_le _) (fun E h' n' _ z => rp_x z) (rp_k (fun p32 p32ρ p32τ p32M p32A p32F => ?_))
      obtain ⟨Gp32, hGp32, eGp32⟩ := p32M.out
      show SW _ _ _ _ _ _ _ (.int 1 :: _) _ _ _
      refine sw_if_eq (pc' := 38) (tgt := 40) rfl dX5_put_35 (by decide +kernel) (fun c35 => ?_) (fun c35 => ?_)
      · exact absurd c35 (by decide +kernel)
      · refine sw_iconst (pc' := 39) (v := 0) rfl dX5_put_38 (by decide +kernel) ?_
        refine sw_ret (v := some _) ⟨dX5_put_39, _, rfl, rfl⟩ ?_
        rw [opPut, onSh_x qk1]
        exact pm_x tc_1 p32M p32A p32F (Nat.le_refl _)
    · exact absurd c13 (by decide +kernel)
  have hck := hI.1 k hk
  rcases Classical.em (x < 0 ∨ 100 < x) with qx | qx
  · refine sw_aload_n (pc' := 1) rfl dX5_put_0 rfl ?_
    refine sw_iload_n (pc' := 2) rfl dX5_put_1 rfl ?_
    refine sw_S (M' := MX5_isNone) (d' := d - 1) (bc' := 0) (bs' := 0) (as := [_]) dX5_put_2 w_1165 ok_X5_isNone (q_isNone (by omega)) (by omega) (Nat.le_of_ble_eq_true rfl) (Nat.zero_le _) (Nat.zero_le _) (fun E h' n' _ z => det_x z) (det_k ?_)
    rw [show inB (nI k) 0 10 = true from inB_k (N := 10) (by omega) (by decide +kernel)]
    show SW _ _ _ _ _ _ _ (.int 0 :: _) _ _ _
    refine sw_iload_n (pc' := 6) rfl dX5_put_5 rfl ?_
    refine sw_S (M' := MX5_isNoThing) (d' := d - 1) (bc' := 0) (bs' := 0) (as := [_]) dX5_put_6 w_1171 ok_X5_isNoThing (q_isNoThing (by omega)) (by omega) (Nat.le_of_ble_eq_true rfl) (Nat.zero_le _) (Nat.zero_le _) (fun E h' n' _ z => det_x z) (det_k ?_)
    rw [show inB x 0 100 = false from inB_x qx]
    show SW _ _ _ _ _ _ _ (.int 1 :: _) _ _ _
    refine sw_iload_n (pc' := 10) rfl dX5_put_9 rfl ?_
    refine sw_S (M' := MX5_isNone) (d' := d - 1) (bc' := 0) (bs' := 0) (as := [_]) dX5_put_10 w_1165 ok_X5_isNone (q_isNone (by omega)) (by omega) (Nat.le_of_ble_eq_true rfl) (Nat.zero_le _) (Nat.zero_le _) (fun E h' n' _ z => det_x z) (det_k ?_)
    rw [show inB (nI k) 0 10 = true from inB_k (N := 10) (by omega) (by decide +kernel)]
    show SW _ _ _ _ _ _ _ (.int 0 :: _) _ _ _
    refine sw_if_ne (pc' := 16) (tgt := 31) rfl dX5_put_13 (by decide +kernel) (fun c13 => ?_) (fun c13 => ?_)
    · exact absurd c13 (by decide +kernel)
    · refine sw_aload_n (pc' := 17) rfl dX5_put_16 rfl ?_
      refine sw_getf (ci := 6) (k := 4) (pc' := 20) rfl dX5_put_17 (by decide +kernel) w_1117 hM.ob rfl ?_
      refine sw_iload_n (pc' := 21) rfl dX5_put_20 rfl ?_
      refine sw_iald (j := k) (pc' := 22) rfl dX5_put_21 hM.sz rfl (by omega) (by decide +kernel) ?_
      refine sw_bipush (pc' := 24) (v := 12) rfl dX5_put_22 (by decide +kernel) ?_
      refine sw_icmp_ne (pc' := 27) (tgt := 31) rfl dX5_put_24 (by decide +kernel) (fun c24 => ?_) (fun c24 => ?_)
      · refine sw_iconst (pc' := 32) (v := 0) rfl dX5_put_31 (by decide +kernel) ?_
        refine sw_V (M' := MX5_isStopped) (d' := d - 1) (bc' := 0) (bs' := 0) (ci := 6) (as := [_, _, _]) dX5_put_32 w_1174 ok_X5_isStopped (q_isStopped (a := false) (b := true) (c := false) hM hA) hM.ob rfl (by omega) (Nat.le_of_ble_eq_true rfl) (Nat.zero_le _) (Nat.zero_le _) (fun E h' n' _ z => rp_x z) (rp_k (fun p32 p32ρ p32τ p32M p32A p32F => ?_))
        obtain ⟨Gp32, hGp32, eGp32⟩ := p32M.out
        show SW _ _ _ _ _ _ _ (.int 1 :: _) _ _ _
        refine sw_if_eq (pc' := 38) (tgt := 40) rfl dX5_put_35 (by decide +kernel) (fun c35 => ?_) (fun c35 => ?_)
        · exact absurd c35 (by decide +kernel)
        · refine sw_iconst (pc' := 39) (v := 0) rfl dX5_put_38 (by decide +kernel) ?_
          refine sw_ret (v := some _) ⟨dX5_put_39, _, rfl, rfl⟩ ?_
          rw [opPut, onSh_k hk, if_pos qx]
          exact pm_x (tc_2 sAI) p32M p32A p32F (Nat.le_refl _)
      · refine sw_iconst (pc' := 28) (v := 1) rfl dX5_put_27 (by decide +kernel) ?_
        refine sw_goto (tgt := 32) dX5_put_28 (by decide +kernel) ?_
        refine sw_V (M' := MX5_isStopped) (d' := d - 1) (bc' := 0) (bs' := 0) (ci := 6) (as := [_, _, _]) dX5_put_32 w_1174 ok_X5_isStopped (q_isStopped (a := false) (b := true) (c := true) hM hA) hM.ob rfl (by omega) (Nat.le_of_ble_eq_true rfl) (Nat.zero_le _) (Nat.zero_le _) (fun E h' n' _ z => rp_x z) (rp_k (fun p32 p32ρ p32τ p32M p32A p32F => ?_))
        obtain ⟨Gp32, hGp32, eGp32⟩ := p32M.out
        show SW _ _ _ _ _ _ _ (.int 1 :: _) _ _ _
        refine sw_if_eq (pc' := 38) (tgt := 40) rfl dX5_put_35 (by decide +kernel) (fun c35 => ?_) (fun c35 => ?_)
        · exact absurd c35 (by decide +kernel)
        · refine sw_iconst (pc' := 39) (v := 0) rfl dX5_put_38 (by decide +kernel) ?_
          refine sw_ret (v := some _) ⟨dX5_put_39, _, rfl, rfl⟩ ?_
          rw [opPut, onSh_k hk, if_pos qx]
          exact pm_x (tc_2 sAI) p32M p32A p32F (Nat.le_refl _)
  rcases Classical.em (12 < nI (σ.2.1 k) + 1) with qr | qr
  · refine sw_aload_n (pc' := 1) rfl dX5_put_0 rfl ?_
    refine sw_iload_n (pc' := 2) rfl dX5_put_1 rfl ?_
    refine sw_S (M' := MX5_isNone) (d' := d - 1) (bc' := 0) (bs' := 0) (as := [_]) dX5_put_2 w_1165 ok_X5_isNone (q_isNone (by omega)) (by omega) (Nat.le_of_ble_eq_true rfl) (Nat.zero_le _) (Nat.zero_le _) (fun E h' n' _ z => det_x z) (det_k ?_)
    rw [show inB (nI k) 0 10 = true from inB_k (N := 10) (by omega) (by decide +kernel)]
    show SW _ _ _ _ _ _ _ (.int 0 :: _) _ _ _
    refine sw_iload_n (pc' := 6) rfl dX5_put_5 rfl ?_
    refine sw_S (M' := MX5_isNoThing) (d' := d - 1) (bc' := 0) (bs' := 0) (as := [_]) dX5_put_6 w_1171 ok_X5_isNoThing (q_isNoThing (by omega)) (by omega) (Nat.le_of_ble_eq_true rfl) (Nat.zero_le _) (Nat.zero_le _) (fun E h' n' _ z => det_x z) (det_k ?_)
    rw [show inB x 0 100 = true from inB_n qx]
    show SW _ _ _ _ _ _ _ (.int 0 :: _) _ _ _
    refine sw_iload_n (pc' := 10) rfl dX5_put_9 rfl ?_
    refine sw_S (M' := MX5_isNone) (d' := d - 1) (bc' := 0) (bs' := 0) (as := [_]) dX5_put_10 w_1165 ok_X5_isNone (q_isNone (by omega)) (by omega) (Nat.le_of_ble_eq_true rfl) (Nat.zero_le _) (Nat.zero_le _) (fun E h' n' _ z => det_x z) (det_k ?_)
    rw [show inB (nI k) 0 10 = true from inB_k (N := 10) (by omega) (by decide +kernel)]
    show SW _ _ _ _ _ _ _ (.int 0 :: _) _ _ _
    refine sw_if_ne (pc' := 16) (tgt := 31) rfl dX5_put_13 (by decide +kernel) (fun c13 => ?_) (fun c13 => ?_)
    · exact absurd c13 (by decide +kernel)
    · refine sw_aload_n (pc' := 17) rfl dX5_put_16 rfl ?_
      refine sw_getf (ci := 6) (k := 4) (pc' := 20) rfl dX5_put_17 (by decide +kernel) w_1117 hM.ob rfl ?_
      refine sw_iload_n (pc' := 21) rfl dX5_put_20 rfl ?_
      refine sw_iald (j := k) (pc' := 22) rfl dX5_put_21 hM.sz rfl (by omega) (by decide +kernel) ?_
      refine sw_bipush (pc' := 24) (v := 12) rfl dX5_put_22 (by decide +kernel) ?_
      refine sw_icmp_ne (pc' := 27) (tgt := 31) rfl dX5_put_24 (by decide +kernel) (fun c24 => ?_) (fun c24 => ?_)
      · exact absurd ((nI12 (hI.1 k hk)).mpr (full (hI.1 k hk) qr)) c24
      · refine sw_iconst (pc' := 28) (v := 1) rfl dX5_put_27 (by decide +kernel) ?_
        refine sw_goto (tgt := 32) dX5_put_28 (by decide +kernel) ?_
        refine sw_V (M' := MX5_isStopped) (d' := d - 1) (bc' := 0) (bs' := 0) (ci := 6) (as := [_, _, _]) dX5_put_32 w_1174 ok_X5_isStopped (q_isStopped (a := false) (b := false) (c := true) hM hA) hM.ob rfl (by omega) (Nat.le_of_ble_eq_true rfl) (Nat.zero_le _) (Nat.zero_le _) (fun E h' n' _ z => rp_x z) (rp_k (fun p32 p32ρ p32τ p32M p32A p32F => ?_))
        obtain ⟨Gp32, hGp32, eGp32⟩ := p32M.out
        show SW _ _ _ _ _ _ _ (.int 1 :: _) _ _ _
        refine sw_if_eq (pc' := 38) (tgt := 40) rfl dX5_put_35 (by decide +kernel) (fun c35 => ?_) (fun c35 => ?_)
        · exact absurd c35 (by decide +kernel)
        · refine sw_iconst (pc' := 39) (v := 0) rfl dX5_put_38 (by decide +kernel) ?_
          refine sw_ret (v := some _) ⟨dX5_put_39, _, rfl, rfl⟩ ?_
          rw [opPut, onSh_k hk, if_neg qx, if_pos qr]
          exact pm_x (tc_3 sSI sSA) p32M p32A p32F (Nat.le_refl _)
  have hroom : σ.2.1 k < 12 := full_n (hI.1 k hk) qr
  refine sw_aload_n (pc' := 1) rfl dX5_put_0 rfl ?_
  refine sw_iload_n (pc' := 2) rfl dX5_put_1 rfl ?_
  refine sw_S (M' := MX5_isNone) (d' := d - 1) (bc' := 0) (bs' := 0) (as := [_]) dX5_put_2 w_1165 ok_X5_isNone (q_isNone (by omega)) (by omega) (Nat.le_of_ble_eq_true rfl) (Nat.zero_le _) (Nat.zero_le _) (fun E h' n' _ z => det_x z) (det_k ?_)
  rw [show inB (nI k) 0 10 = true from inB_k (N := 10) (by omega) (by decide +kernel)]
  show SW _ _ _ _ _ _ _ (.int 0 :: _) _ _ _
  refine sw_iload_n (pc' := 6) rfl dX5_put_5 rfl ?_
  refine sw_S (M' := MX5_isNoThing) (d' := d - 1) (bc' := 0) (bs' := 0) (as := [_]) dX5_put_6 w_1171 ok_X5_isNoThing (q_isNoThing (by omega)) (by omega) (Nat.le_of_ble_eq_true rfl) (Nat.zero_le _) (Nat.zero_le _) (fun E h' n' _ z => det_x z) (det_k ?_)
  rw [show inB x 0 100 = true from inB_n qx]
  show SW _ _ _ _ _ _ _ (.int 0 :: _) _ _ _
  refine sw_iload_n (pc' := 10) rfl dX5_put_9 rfl ?_
  refine sw_S (M' := MX5_isNone) (d' := d - 1) (bc' := 0) (bs' := 0) (as := [_]) dX5_put_10 w_1165 ok_X5_isNone (q_isNone (by omega)) (by omega) (Nat.le_of_ble_eq_true rfl) (Nat.zero_le _) (Nat.zero_le _) (fun E h' n' _ z => det_x z) (det_k ?_)
  rw [show inB (nI k) 0 10 = true from inB_k (N := 10) (by omega) (by decide +kernel)]
  show SW _ _ _ _ _ _ _ (.int 0 :: _) _ _ _
  refine sw_if_ne (pc' := 16) (tgt := 31) rfl dX5_put_13 (by decide +kernel) (fun c13 => ?_) (fun c13 => ?_)
  · exact absurd c13 (by decide +kernel)
  · refine sw_aload_n (pc' := 17) rfl dX5_put_16 rfl ?_
    refine sw_getf (ci := 6) (k := 4) (pc' := 20) rfl dX5_put_17 (by decide +kernel) w_1117 hM.ob rfl ?_
    refine sw_iload_n (pc' := 21) rfl dX5_put_20 rfl ?_
    refine sw_iald (j := k) (pc' := 22) rfl dX5_put_21 hM.sz rfl (by omega) (by decide +kernel) ?_
    refine sw_bipush (pc' := 24) (v := 12) rfl dX5_put_22 (by decide +kernel) ?_
    refine sw_icmp_ne (pc' := 27) (tgt := 31) rfl dX5_put_24 (by decide +kernel) (fun c24 => ?_) (fun c24 => ?_)
    · refine sw_iconst (pc' := 32) (v := 0) rfl dX5_put_31 (by decide +kernel) ?_
      refine sw_V (M' := MX5_isStopped) (d' := d - 1) (bc' := 0) (bs' := 0) (ci := 6) (as := [_, _, _]) dX5_put_32 w_1174 ok_X5_isStopped (q_isStopped (a := false) (b := false) (c := false) hM hA) hM.ob rfl (by omega) (Nat.le_of_ble_eq_true rfl) (Nat.zero_le _) (Nat.zero_le _) (fun E h' n' _ z => rp_x z) (rp_k (fun p32 p32ρ p32τ p32M p32A p32F => ?_))
      obtain ⟨Gp32, hGp32, eGp32⟩ := p32M.out
      show SW _ _ _ _ _ _ _ (.int 0 :: _) _ _ _
      refine sw_if_eq (pc' := 38) (tgt := 40) rfl dX5_put_35 (by decide +kernel) (fun c35 => ?_) (fun c35 => ?_)
      · refine sw_iload_n (pc' := 41) rfl dX5_put_40 rfl ?_
        refine sw_S (M' := MX5_isTable) (d' := d - 1) (bc' := 0) (bs' := 0) (as := [_]) dX5_put_41 w_1178 ok_X5_isTable (q_isTable) (by omega) (Nat.le_of_ble_eq_true rfl) (Nat.zero_le _) (Nat.zero_le _) (fun E h' n' _ z => det_x z) (det_k ?_)
        rw [tb_k (k := k) (by omega)]
        refine sw_if_ne (pc' := 47) (tgt := 60) rfl dX5_put_44 (by decide +kernel) (fun c44 => ?_) (fun c44 => ?_)
        · refine sw_aload_n (pc' := 61) rfl dX5_put_60 rfl ?_
          refine sw_V (M' := MX5_no) (d' := d - 1) (bc' := 0) (bs' := 0) (ci := 6) (as := []) dX5_put_61 w_1184 ok_X5_no (q_no p32M p32A) p32M.ob rfl (by omega) (Nat.le_of_ble_eq_true rfl) (Nat.zero_le _) (Nat.zero_le _) (fun E h' n' _ z => rp_x z) (rp_k (fun p61 p61ρ p61τ p61M p61A p61F => ?_))
          obtain ⟨Gp61, hGp61, eGp61⟩ := p61M.out
          refine sw_goto (tgt := 76) dX5_put_64 (by decide +kernel) ?_
          refine sw_ret (v := some _) ⟨dX5_put_76, _, rfl, rfl⟩ ?_
          rw [opPut, onSh_k hk, if_neg qx, if_neg qr, if_pos (Or.inl (of_decide_eq_true (bI_1 c44)))]
          exact pm_k p61M p61A (p32F.tr p61F (Nat.le_refl _)) (Nat.le_refl _)
        · refine sw_iload_n (pc' := 48) rfl dX5_put_47 rfl ?_
          refine sw_bipush (pc' := 50) (v := 100) rfl dX5_put_48 (by decide +kernel) ?_
          refine sw_icmp_ne (pc' := 53) (tgt := 67) rfl dX5_put_50 (by decide +kernel) (fun c50 => ?_) (fun c50 => ?_)
          · refine sw_aload_n (pc' := 68) rfl dX5_put_67 rfl ?_
            refine sw_iload_n (pc' := 69) rfl dX5_put_68 rfl ?_
            refine sw_iload_n (pc' := 70) rfl dX5_put_69 rfl ?_
            refine sw_V (M' := MX5_come) (d' := d - 1) (bc' := 0) (bs' := 0) (ci := 6) (as := [_, _]) dX5_put_70 w_1188 ok_X5_come (q_come p32M p32A (k := k) (by omega) (fun e => e ▸ hI.2.2.2.1) (by omega) (by omega)) p32M.ob rfl (by omega) (Nat.le_of_ble_eq_true rfl) (Nat.zero_le _) (Nat.zero_le _) (fun E h' n' _ z => rp_x z) (rp_k (fun p70 p70ρ p70τ p70M p70A p70F => ?_))
            obtain ⟨Gp70, hGp70, eGp70⟩ := p70M.out
            refine sw_S (M' := MX5_one) (d' := d - 1) (bc' := 0) (bs' := 0) (as := [_]) dX5_put_73 w_1196 ok_X5_one (q_one (q := (ldY (σ.1 k) (σ.2.1 k) (kdO k) x))) (by omega) (Nat.le_of_ble_eq_true rfl) (Nat.zero_le _) (Nat.zero_le _) (fun E h' n' _ z => det_x z) (det_k ?_)
            refine sw_ret (v := some _) ⟨dX5_put_76, _, rfl, rfl⟩ ?_
            rw [opPut, onSh_k hk, if_neg qx, if_neg qr, if_neg (fun q => q.elim (of_decide_eq_false (bI_0 c44)) (fun e => Bool.noConfusion (e.symm.trans (tk_n c50))))]
            exact pm_k p70M p70A (p32F.tr p70F (Nat.le_refl _)) (Nat.le_refl _)
          · refine sw_iload_n (pc' := 54) rfl dX5_put_53 rfl ?_
            refine sw_S (M' := MX5_takesNothing) (d' := d - 1) (bc' := 0) (bs' := 0) (as := [_]) dX5_put_54 w_1181 ok_X5_takesNothing (q_takesNothing (by omega)) (by omega) (Nat.le_of_ble_eq_true rfl) (Nat.zero_le _) (Nat.zero_le _) (fun E h' n' _ z => det_x z) (det_k ?_)
            rw [tn_k (k := k) (by omega)]
            refine sw_if_ne (pc' := 60) (tgt := 67) rfl dX5_put_57 (by decide +kernel) (fun c57 => ?_) (fun c57 => ?_)
            · refine sw_aload_n (pc' := 68) rfl dX5_put_67 rfl ?_
              refine sw_iload_n (pc' := 69) rfl dX5_put_68 rfl ?_
              refine sw_iload_n (pc' := 70) rfl dX5_put_69 rfl ?_
              refine sw_V (M' := MX5_come) (d' := d - 1) (bc' := 0) (bs' := 0) (ci := 6) (as := [_, _]) dX5_put_70 w_1188 ok_X5_come (q_come p32M p32A (k := k) (by omega) (fun e => e ▸ hI.2.2.2.1) (by omega) (by omega)) p32M.ob rfl (by omega) (Nat.le_of_ble_eq_true rfl) (Nat.zero_le _) (Nat.zero_le _) (fun E h' n' _ z => rp_x z) (rp_k (fun p70 p70ρ p70τ p70M p70A p70F => ?_))
              obtain ⟨Gp70, hGp70, eGp70⟩ := p70M.out
              refine sw_S (M' := MX5_one) (d' := d - 1) (bc' := 0) (bs' := 0) (as := [_]) dX5_put_73 w_1196 ok_X5_one (q_one (q := (ldY (σ.1 k) (σ.2.1 k) (kdO k) x))) (by omega) (Nat.le_of_ble_eq_true rfl) (Nat.zero_le _) (Nat.zero_le _) (fun E h' n' _ z => det_x z) (det_k ?_)
              refine sw_ret (v := some _) ⟨dX5_put_76, _, rfl, rfl⟩ ?_
              rw [opPut, onSh_k hk, if_neg qx, if_neg qr, if_neg (fun q => q.elim (of_decide_eq_false (bI_0 c44)) (fun e => Bool.noConfusion (e.symm.trans (tk_t (bI_1 c57)))))]
              exact pm_k p70M p70A (p32F.tr p70F (Nat.le_refl _)) (Nat.le_refl _)
            · refine sw_aload_n (pc' := 61) rfl dX5_put_60 rfl ?_
              refine sw_V (M' := MX5_no) (d' := d - 1) (bc' := 0) (bs' := 0) (ci := 6) (as := []) dX5_put_61 w_1184 ok_X5_no (q_no p32M p32A) p32M.ob rfl (by omega) (Nat.le_of_ble_eq_true rfl) (Nat.zero_le _) (Nat.zero_le _) (fun E h' n' _ z => rp_x z) (rp_k (fun p61 p61ρ p61τ p61M p61A p61F => ?_))
              obtain ⟨Gp61, hGp61, eGp61⟩ := p61M.out
              refine sw_goto (tgt := 76) dX5_put_64 (by decide +kernel) ?_
              refine sw_ret (v := some _) ⟨dX5_put_76, _, rfl, rfl⟩ ?_
              rw [opPut, onSh_k hk, if_neg qx, if_neg qr, if_pos (Or.inr (tk_f c50 (bI_0 c57)))]
              exact pm_k p61M p61A (p32F.tr p61F (Nat.le_refl _)) (Nat.le_refl _)
      · exact absurd c35 (by decide +kernel)
    · exact absurd ((nI12 (hI.1 k hk)).mp c24) (by have := full_n (hI.1 k hk) qr; omega)
theorem fp_i {f : Nat → Int32} {x : Int32} {c p : Nat} (h : fpN f x 0 c = some p) : p < c := by have := fpN_at h; omega
end
section
/-! 42.model -/
/-! the model's calls, go on -/
theorem kdT {k : Nat} (hk : k < 11) : kdO k = 5 → k = 6 ∨ k = 7 := by revert k; decide
theorem lv6 {σ : CS} {k p : Nat} (hI : Iv σ) (hk : k < 11) (hp : p < σ.2.1 k) : kdO k = 5 → (σ.2.1 6 ≤ 12 ∧ p < σ.2.1 6 ∧ σ.2.1 7 ≤ 12 ∧ p < σ.2.1 7) := by
  intro e
  have h6 := hI.1 6 (by decide +kernel)
  have h7 := hI.1 7 (by decide +kernel)
  have h67 := hI.2.1
  rcases kdT hk e with e1 | e1 <;> subst e1 <;> exact ⟨h6, by omega, h7, by omega⟩
theorem up_at {f g : Nat → Int32} {c p : Nat} {x : Int32} (h : ∀ j, j < c → g j = f j) : ∀ j, j < c → up g p x j = up f p x j := by
  intro j hj
  unfold up
  split
  · rfl
  · exact h j hj
theorem if_li {a : Int32} {σ : CS} {g : Nat → ARes × CS} (q : a < 8) : onLi a σ g = (xI, σ) := if_pos q
theorem onLi_z {a : Int32} {σ : CS} {g : Nat → ARes × CS} (q : ¬ a < 8) (q1 : a < 0 ∨ nI 11 ≤ a) : onLi a σ g = (xI, σ) := (if_neg q).trans (onSh_x q1)
theorem li_x {a : Int32} (q : ¬ a < 8) (q1 : a < 0 ∨ nI 11 ≤ a) : inB a 8 10 = false := by
  rcases q1 with g | g
  · exact absurd (Int32.lt_trans g (show (0 : Int32) < 8 by decide +kernel)) q
  · by_cases g2 : a < 0
    · exact absurd (Int32.lt_trans g2 (show (0 : Int32) < 8 by decide +kernel)) q
    · obtain ⟨j, hj, rfl⟩ := nI_of g2
      exact inB_f2 (nI_lt (a := 10) (by have := (nI_leI (a := 11) (by decide +kernel) hj).mp g; omega) hj)
theorem li_k {k : Nat} (q : ¬ nI k < 8) (hk : k < 11) : inB (nI k) 8 10 = true := inB_t (Int32.not_lt.mp q) ((nI_leI (b := 10) (by omega) (by decide +kernel)).mpr (by omega))
theorem rtI {a b c : Int32} (h : a = b) : a + c = b + c := by rw [h]
theorem sw_v {f g : Nat → Int32} {P O : Nat} : up (up f P (g O)) O (g P) P = g O := by
  unfold up
  by_cases e : P = O
  · rw [if_pos e, e]
  · rw [if_neg e, if_pos rfl]
theorem q_valueOf {h : AH} {d bc bs n : Nat} {σ : CS} {th : Int32} {x : Int32} (hR : RMo h σ th) (hI : Iv σ) (hn : 159 ≤ n) (hd : 8 ≤ d) (h1 : 1 ≤ bc) (h2 : 12 ≤ bs)  : SM SR0 MX5_valueOf d bc bs [.ref 135, .int x] h n (PM h n (tc sA sA) (opValueOf σ x)) := by
  obtain ⟨ρ, τ, hM, hA⟩ := hR
  obtain ⟨G0, hG0, eG0⟩ := hM.out
  refine sm_of pn_OverwalksModel rfl (Nat.le_of_ble_eq_true rfl) ?_
  rcases Classical.em (x < 0 ∨ 100 ≤ x) with qx | qx
  · refine sw_aload_n (pc' := 1) rfl dX5_valueOf_0 rfl ?_
    refine sw_iload_n (pc' := 2) rfl dX5_valueOf_1 rfl ?_
    refine sw_iconst (pc' := 3) (v := 0) rfl dX5_valueOf_2 (by decide +kernel) ?_
    refine sw_bipush (pc' := 5) (v := 99) rfl dX5_valueOf_3 (by decide +kernel) ?_
    refine sw_S (M' := MX5_isIn) (d' := d - 1) (bc' := 0) (bs' := 0) (as := [_, _, _]) dX5_valueOf_5 w_1168 ok_X5_isIn (q_isIn) (by omega) (Nat.le_of_ble_eq_true rfl) (Nat.zero_le _) (Nat.zero_le _) (fun E h' n' _ z => det_x z) (det_k ?_)
    rw [show inB x 0 99 = false from inB_99x qx]
    show SW _ _ _ _ _ _ _ (.int 0 :: _) _ _ _
    refine sw_if_ne (pc' := 11) (tgt := 15) rfl dX5_valueOf_8 (by decide +kernel) (fun c8 => ?_) (fun c8 => ?_)
    · exact absurd c8 (by decide +kernel)
    · refine sw_iconst (pc' := 12) (v := 1) rfl dX5_valueOf_11 (by decide +kernel) ?_
      refine sw_goto (tgt := 16) dX5_valueOf_12 (by decide +kernel) ?_
      refine sw_V (M' := MX5_isStopped__) (d' := d - 1) (bc' := 0) (bs' := 0) (ci := 6) (as := [_]) dX5_valueOf_16 w_1235 ok_X5_isStopped__ (q_isStopped1 (a := true) hM hA (by omega)) hM.ob rfl (by omega) (Nat.le_of_ble_eq_true rfl) (Nat.zero_le _) (Nat.zero_le _) (fun E h' n' _ z => rp_x z) (rp_k (fun p16 p16ρ p16τ p16M p16A p16F => ?_))
      obtain ⟨Gp16, hGp16, eGp16⟩ := p16M.out
      show SW _ _ _ _ _ _ _ (.int 1 :: _) _ _ _
      refine sw_if_eq (pc' := 22) (tgt := 24) rfl dX5_valueOf_19 (by decide +kernel) (fun c19 => ?_) (fun c19 => ?_)
      · exact absurd c19 (by decide +kernel)
      · refine sw_iconst (pc' := 23) (v := 0) rfl dX5_valueOf_22 (by decide +kernel) ?_
        refine sw_ret (v := some _) ⟨dX5_valueOf_23, _, rfl, rfl⟩ ?_
        rw [opValueOf, if_pos qx]
        exact pm_x tc_1 p16M p16A p16F (Nat.le_refl _)
  rcases e1 : fpN (σ.1 6) x 0 (σ.2.1 6) with _ | p
  · skip
    refine sw_aload_n (pc' := 1) rfl dX5_valueOf_0 rfl ?_
    refine sw_iload_n (pc' := 2) rfl dX5_valueOf_1 rfl ?_
    refine sw_iconst (pc' := 3) (v := 0) rfl dX5_valueOf_2 (by decide +kernel) ?_
    refine sw_bipush (pc' := 5) (v := 99) rfl dX5_valueOf_3 (by decide +kernel) ?_
    refine sw_S (M' := MX5_isIn) (d' := d - 1) (bc' := 0) (bs' := 0) (as := [_, _, _]) dX5_valueOf_5 w_1168 ok_X5_isIn (q_isIn) (by omega) (Nat.le_of_ble_eq_true rfl) (Nat.zero_le _) (Nat.zero_le _) (fun E h' n' _ z => det_x z) (det_k ?_)
    rw [show inB x 0 99 = true from inB_99 qx]
    show SW _ _ _ _ _ _ _ (.int 1 :: _) _ _ _
    refine sw_if_ne (pc' := 11) (tgt := 15) rfl dX5_valueOf_8 (by decide +kernel) (fun c8 => ?_) (fun c8 => ?_)
    · refine sw_iconst (pc' := 16) (v := 0) rfl dX5_valueOf_15 (by decide +kernel) ?_
      refine sw_V (M' := MX5_isStopped__) (d' := d - 1) (bc' := 0) (bs' := 0) (ci := 6) (as := [_]) dX5_valueOf_16 w_1235 ok_X5_isStopped__ (q_isStopped1 (a := false) hM hA (by omega)) hM.ob rfl (by omega) (Nat.le_of_ble_eq_true rfl) (Nat.zero_le _) (Nat.zero_le _) (fun E h' n' _ z => rp_x z) (rp_k (fun p16 p16ρ p16τ p16M p16A p16F => ?_))
      obtain ⟨Gp16, hGp16, eGp16⟩ := p16M.out
      show SW _ _ _ _ _ _ _ (.int 0 :: _) _ _ _
      refine sw_if_eq (pc' := 22) (tgt := 24) rfl dX5_valueOf_19 (by decide +kernel) (fun c19 => ?_) (fun c19 => ?_)
      · refine sw_aload_n (pc' := 25) rfl dX5_valueOf_24 rfl ?_
        refine sw_bipush (pc' := 27) (v := 6) rfl dX5_valueOf_25 (by decide +kernel) ?_
        refine sw_iload_n (pc' := 28) rfl dX5_valueOf_27 rfl ?_
        refine sw_V (M' := MX5_firstPlace) (d' := d - 1) (bc' := 0) (bs' := 0) (ci := 6) (as := [_, _]) dX5_valueOf_28 w_1219 ok_X5_firstPlace (q_firstPlace p16M p16A (k := 6) (by omega) (hI.1 6 (by omega))) p16M.ob rfl (by omega) (Nat.le_of_ble_eq_true rfl) (Nat.zero_le _) (Nat.zero_le _) (fun E h' n' _ z => det_x z) (det_k ?_)
        rw [e1]
        show SW _ _ _ _ _ _ _ (.int (-1) :: _) _ _ _
        refine sw_istore_n (pc' := 32) (lv' := [(2, _), (0, _), (1, _)]) rfl dX5_valueOf_31 (by decide +kernel) rfl ?_
        refine sw_iload_n (pc' := 33) rfl dX5_valueOf_32 rfl ?_
        refine sw_iconst (pc' := 34) (v := (-1)) rfl dX5_valueOf_33 (by decide +kernel) ?_
        refine sw_icmp_ne (pc' := 37) (tgt := 41) rfl dX5_valueOf_34 (by decide +kernel) (fun c34 => ?_) (fun c34 => ?_)
        · exact absurd c34 (by decide +kernel)
        · refine sw_iconst (pc' := 38) (v := (-1)) rfl dX5_valueOf_37 (by decide +kernel) ?_
          refine sw_goto (tgt := 50) dX5_valueOf_38 (by decide +kernel) ?_
          refine sw_ret (v := some _) ⟨dX5_valueOf_50, _, rfl, rfl⟩ ?_
          rw [opValueOf, if_neg qx, e1]
          exact pm_k p16M p16A p16F (Nat.le_refl _)
      · exact absurd c19 (by decide +kernel)
    · exact absurd c8 (by decide +kernel)
  · have hp := fp_i e1
    have h67 := hI.2.1
    refine sw_aload_n (pc' := 1) rfl dX5_valueOf_0 rfl ?_
    refine sw_iload_n (pc' := 2) rfl dX5_valueOf_1 rfl ?_
    refine sw_iconst (pc' := 3) (v := 0) rfl dX5_valueOf_2 (by decide +kernel) ?_
    refine sw_bipush (pc' := 5) (v := 99) rfl dX5_valueOf_3 (by decide +kernel) ?_
    refine sw_S (M' := MX5_isIn) (d' := d - 1) (bc' := 0) (bs' := 0) (as := [_, _, _]) dX5_valueOf_5 w_1168 ok_X5_isIn (q_isIn) (by omega) (Nat.le_of_ble_eq_true rfl) (Nat.zero_le _) (Nat.zero_le _) (fun E h' n' _ z => det_x z) (det_k ?_)
    rw [show inB x 0 99 = true from inB_99 qx]
    show SW _ _ _ _ _ _ _ (.int 1 :: _) _ _ _
    refine sw_if_ne (pc' := 11) (tgt := 15) rfl dX5_valueOf_8 (by decide +kernel) (fun c8 => ?_) (fun c8 => ?_)
    · refine sw_iconst (pc' := 16) (v := 0) rfl dX5_valueOf_15 (by decide +kernel) ?_
      refine sw_V (M' := MX5_isStopped__) (d' := d - 1) (bc' := 0) (bs' := 0) (ci := 6) (as := [_]) dX5_valueOf_16 w_1235 ok_X5_isStopped__ (q_isStopped1 (a := false) hM hA (by omega)) hM.ob rfl (by omega) (Nat.le_of_ble_eq_true rfl) (Nat.zero_le _) (Nat.zero_le _) (fun E h' n' _ z => rp_x z) (rp_k (fun p16 p16ρ p16τ p16M p16A p16F => ?_))
      obtain ⟨Gp16, hGp16, eGp16⟩ := p16M.out
      show SW _ _ _ _ _ _ _ (.int 0 :: _) _ _ _
      refine sw_if_eq (pc' := 22) (tgt := 24) rfl dX5_valueOf_19 (by decide +kernel) (fun c19 => ?_) (fun c19 => ?_)
      · refine sw_aload_n (pc' := 25) rfl dX5_valueOf_24 rfl ?_
        refine sw_bipush (pc' := 27) (v := 6) rfl dX5_valueOf_25 (by decide +kernel) ?_
        refine sw_iload_n (pc' := 28) rfl dX5_valueOf_27 rfl ?_
        refine sw_V (M' := MX5_firstPlace) (d' := d - 1) (bc' := 0) (bs' := 0) (ci := 6) (as := [_, _]) dX5_valueOf_28 w_1219 ok_X5_firstPlace (q_firstPlace p16M p16A (k := 6) (by omega) (hI.1 6 (by omega))) p16M.ob rfl (by omega) (Nat.le_of_ble_eq_true rfl) (Nat.zero_le _) (Nat.zero_le _) (fun E h' n' _ z => det_x z) (det_k ?_)
        rw [e1]
        show SW _ _ _ _ _ _ _ (.int (nI p) :: _) _ _ _
        refine sw_istore_n (pc' := 32) (lv' := [(2, _), (0, _), (1, _)]) rfl dX5_valueOf_31 (by decide +kernel) rfl ?_
        refine sw_iload_n (pc' := 33) rfl dX5_valueOf_32 rfl ?_
        refine sw_iconst (pc' := 34) (v := (-1)) rfl dX5_valueOf_33 (by decide +kernel) ?_
        refine sw_icmp_ne (pc' := 37) (tgt := 41) rfl dX5_valueOf_34 (by decide +kernel) (fun c34 => ?_) (fun c34 => ?_)
        · refine sw_aload_n (pc' := 42) rfl dX5_valueOf_41 rfl ?_
          refine sw_getf (ci := 6) (k := 3) (pc' := 45) rfl dX5_valueOf_42 (by decide +kernel) w_1116 p16M.ob rfl ?_
          refine sw_bipush (pc' := 47) (v := 7) rfl dX5_valueOf_45 (by decide +kernel) ?_
          refine sw_aald (j := 7) (pc' := 48) rfl dX5_valueOf_47 hGp16 (by decide +kernel) (by decide +kernel) rfl (by omega) (by decide +kernel) (eGp16 7 (by omega)) ?_
          refine sw_iload_n (pc' := 49) rfl dX5_valueOf_48 rfl ?_
          refine sw_iald (j := p) (pc' := 50) rfl dX5_valueOf_49 (p16M.row (k := 7) (by omega)) rfl (by have := hI.1 6 (by decide +kernel); omega) (by decide +kernel) ?_
          rw [p16A.1 7 (by omega) p (by omega)]
          refine sw_ret (v := some _) ⟨dX5_valueOf_50, _, rfl, rfl⟩ ?_
          rw [opValueOf, if_neg qx, e1]
          show PM _ _ _ (rI (taI (σ.1 7) (σ.2.1 7) (nI p)), σ) _ _ _
          rw [taI_in (by omega) (hI.1 7 (by decide +kernel))]
          exact pm_k p16M p16A p16F (Nat.le_refl _)
        · exact absurd c34 (nI_ne1 (by have := hI.1 6 (by decide +kernel); have := hI.1 7 (by decide +kernel); omega))
      · exact absurd c19 (by decide +kernel)
    · exact absurd c8 (by decide +kernel)
theorem q_take {h : AH} {d bc bs n : Nat} {σ : CS} {th : Int32} {a x : Int32} (hR : RMo h σ th) (hI : Iv σ) (hn : 159 ≤ n) (hd : 8 ≤ d) (h1 : 1 ≤ bc) (h2 : 12 ≤ bs)  : SM SR0 MX5_take d bc bs [.ref 135, .int a, .int x] h n (PM h n (tc sI sA) (opTake σ a x)) := by
  obtain ⟨ρ, τ, hM, hA⟩ := hR
  obtain ⟨G0, hG0, eG0⟩ := hM.out
  refine sm_of pn_OverwalksModel rfl (Nat.le_of_ble_eq_true rfl) ?_
  rcases idxN 11 (by decide +kernel) a with qk1 | ⟨k, hk, rfl⟩
  · refine sw_aload_n (pc' := 1) rfl dX5_take_0 rfl ?_
    refine sw_iload_n (pc' := 2) rfl dX5_take_1 rfl ?_
    refine sw_S (M' := MX5_isNone) (d' := d - 1) (bc' := 0) (bs' := 0) (as := [_]) dX5_take_2 w_1165 ok_X5_isNone (q_isNone (by omega)) (by omega) (Nat.le_of_ble_eq_true rfl) (Nat.zero_le _) (Nat.zero_le _) (fun E h' n' _ z => det_x z) (det_k ?_)
    rw [show inB a 0 10 = false from no_x (N := 10) (by decide +kernel) qk1]
    show SW _ _ _ _ _ _ _ (.int 1 :: _) _ _ _
    refine sw_iload_n (pc' := 6) rfl dX5_take_5 rfl ?_
    refine sw_S (M' := MX5_isNoThing) (d' := d - 1) (bc' := 0) (bs' := 0) (as := [_]) dX5_take_6 w_1171 ok_X5_isNoThing (q_isNoThing (by omega)) (by omega) (Nat.le_of_ble_eq_true rfl) (Nat.zero_le _) (Nat.zero_le _) (fun E h' n' _ z => det_x z) (det_k ?_)
    refine sw_V (M' := MX5_isStopped_) (d' := d - 1) (bc' := 0) (bs' := 0) (ci := 6) (as := [_, _]) dX5_take_9 w_1215 ok_X5_isStopped_ (q_isStopped2 (a := true) (b := (!inB x 0 100)) hM hA (by omega)) hM.ob rfl (by omega) (Nat.le_of_ble_eq_true rfl) (Nat.zero_le _) (Nat.zero_le _) (fun E h' n' _ z => rp_x z) (rp_k (fun p9 p9ρ p9τ p9M p9A p9F => ?_))
    obtain ⟨Gp9, hGp9, eGp9⟩ := p9M.out
    show SW _ _ _ _ _ _ _ (.int 1 :: _) _ _ _
    refine sw_if_eq (pc' := 15) (tgt := 17) rfl dX5_take_12 (by decide +kernel) (fun c12 => ?_) (fun c12 => ?_)
    · exact absurd c12 (by decide +kernel)
    · refine sw_iconst (pc' := 16) (v := 0) rfl dX5_take_15 (by decide +kernel) ?_
      refine sw_ret (v := some _) ⟨dX5_take_16, _, rfl, rfl⟩ ?_
      rw [opTake, onSh_x qk1]
      exact pm_x tc_1 p9M p9A p9F (Nat.le_refl _)
  have hck := hI.1 k hk
  rcases Classical.em (x < 0 ∨ 100 < x) with qx | qx
  · refine sw_aload_n (pc' := 1) rfl dX5_take_0 rfl ?_
    refine sw_iload_n (pc' := 2) rfl dX5_take_1 rfl ?_
    refine sw_S (M' := MX5_isNone) (d' := d - 1) (bc' := 0) (bs' := 0) (as := [_]) dX5_take_2 w_1165 ok_X5_isNone (q_isNone (by omega)) (by omega) (Nat.le_of_ble_eq_true rfl) (Nat.zero_le _) (Nat.zero_le _) (fun E h' n' _ z => det_x z) (det_k ?_)
    rw [show inB (nI k) 0 10 = true from inB_k (N := 10) (by omega) (by decide +kernel)]
    show SW _ _ _ _ _ _ _ (.int 0 :: _) _ _ _
    refine sw_iload_n (pc' := 6) rfl dX5_take_5 rfl ?_
    refine sw_S (M' := MX5_isNoThing) (d' := d - 1) (bc' := 0) (bs' := 0) (as := [_]) dX5_take_6 w_1171 ok_X5_isNoThing (q_isNoThing (by omega)) (by omega) (Nat.le_of_ble_eq_true rfl) (Nat.zero_le _) (Nat.zero_le _) (fun E h' n' _ z => det_x z) (det_k ?_)
    rw [show inB x 0 100 = false from inB_x qx]
    show SW _ _ _ _ _ _ _ (.int 1 :: _) _ _ _
    refine sw_V (M' := MX5_isStopped_) (d' := d - 1) (bc' := 0) (bs' := 0) (ci := 6) (as := [_, _]) dX5_take_9 w_1215 ok_X5_isStopped_ (q_isStopped2 (a := false) (b := true) hM hA (by omega)) hM.ob rfl (by omega) (Nat.le_of_ble_eq_true rfl) (Nat.zero_le _) (Nat.zero_le _) (fun E h' n' _ z => rp_x z) (rp_k (fun p9 p9ρ p9τ p9M p9A p9F => ?_))
    obtain ⟨Gp9, hGp9, eGp9⟩ := p9M.out
    show SW _ _ _ _ _ _ _ (.int 1 :: _) _ _ _
    refine sw_if_eq (pc' := 15) (tgt := 17) rfl dX5_take_12 (by decide +kernel) (fun c12 => ?_) (fun c12 => ?_)
    · exact absurd c12 (by decide +kernel)
    · refine sw_iconst (pc' := 16) (v := 0) rfl dX5_take_15 (by decide +kernel) ?_
      refine sw_ret (v := some _) ⟨dX5_take_16, _, rfl, rfl⟩ ?_
      rw [opTake, onSh_k hk, if_pos qx]
      exact pm_x (tc_2 sAI) p9M p9A p9F (Nat.le_refl _)
  rcases e1 : fpN (σ.1 k) x 0 (σ.2.1 k) with _ | p
  · skip
    refine sw_aload_n (pc' := 1) rfl dX5_take_0 rfl ?_
    refine sw_iload_n (pc' := 2) rfl dX5_take_1 rfl ?_
    refine sw_S (M' := MX5_isNone) (d' := d - 1) (bc' := 0) (bs' := 0) (as := [_]) dX5_take_2 w_1165 ok_X5_isNone (q_isNone (by omega)) (by omega) (Nat.le_of_ble_eq_true rfl) (Nat.zero_le _) (Nat.zero_le _) (fun E h' n' _ z => det_x z) (det_k ?_)
    rw [show inB (nI k) 0 10 = true from inB_k (N := 10) (by omega) (by decide +kernel)]
    show SW _ _ _ _ _ _ _ (.int 0 :: _) _ _ _
    refine sw_iload_n (pc' := 6) rfl dX5_take_5 rfl ?_
    refine sw_S (M' := MX5_isNoThing) (d' := d - 1) (bc' := 0) (bs' := 0) (as := [_]) dX5_take_6 w_1171 ok_X5_isNoThing (q_isNoThing (by omega)) (by omega) (Nat.le_of_ble_eq_true rfl) (Nat.zero_le _) (Nat.zero_le _) (fun E h' n' _ z => det_x z) (det_k ?_)
    rw [show inB x 0 100 = true from inB_n qx]
    show SW _ _ _ _ _ _ _ (.int 0 :: _) _ _ _
    refine sw_V (M' := MX5_isStopped_) (d' := d - 1) (bc' := 0) (bs' := 0) (ci := 6) (as := [_, _]) dX5_take_9 w_1215 ok_X5_isStopped_ (q_isStopped2 (a := false) (b := false) hM hA (by omega)) hM.ob rfl (by omega) (Nat.le_of_ble_eq_true rfl) (Nat.zero_le _) (Nat.zero_le _) (fun E h' n' _ z => rp_x z) (rp_k (fun p9 p9ρ p9τ p9M p9A p9F => ?_))
    obtain ⟨Gp9, hGp9, eGp9⟩ := p9M.out
    show SW _ _ _ _ _ _ _ (.int 0 :: _) _ _ _
    refine sw_if_eq (pc' := 15) (tgt := 17) rfl dX5_take_12 (by decide +kernel) (fun c12 => ?_) (fun c12 => ?_)
    · refine sw_iload_n (pc' := 18) rfl dX5_take_17 rfl ?_
      refine sw_bipush (pc' := 20) (v := 100) rfl dX5_take_18 (by decide +kernel) ?_
      refine sw_icmp_ne (pc' := 23) (tgt := 35) rfl dX5_take_20 (by decide +kernel) (fun c20 => ?_) (fun c20 => ?_)
      · refine sw_aload_n (pc' := 36) rfl dX5_take_35 rfl ?_
        refine sw_iload_n (pc' := 37) rfl dX5_take_36 rfl ?_
        refine sw_iload_n (pc' := 38) rfl dX5_take_37 rfl ?_
        refine sw_V (M' := MX5_firstPlace) (d' := d - 1) (bc' := 0) (bs' := 0) (ci := 6) (as := [_, _]) dX5_take_38 w_1219 ok_X5_firstPlace (q_firstPlace p9M p9A (k := k) (by omega) (hI.1 k (by omega))) p9M.ob rfl (by omega) (Nat.le_of_ble_eq_true rfl) (Nat.zero_le _) (Nat.zero_le _) (fun E h' n' _ z => det_x z) (det_k ?_)
        rw [e1]
        show SW _ _ _ _ _ _ _ (.int (-1) :: _) _ _ _
        refine sw_istore_n (pc' := 42) (lv' := [(3, _), (0, _), (1, _), (2, _)]) rfl dX5_take_41 (by decide +kernel) rfl ?_
        refine sw_iload_n (pc' := 43) rfl dX5_take_42 rfl ?_
        refine sw_iconst (pc' := 44) (v := (-1)) rfl dX5_take_43 (by decide +kernel) ?_
        refine sw_icmp_eq (pc' := 47) (tgt := 53) rfl dX5_take_44 (by decide +kernel) (fun c44 => ?_) (fun c44 => ?_)
        · refine sw_iload_n (pc' := 54) rfl dX5_take_53 rfl ?_
          refine sw_iconst (pc' := 55) (v := (-1)) rfl dX5_take_54 (by decide +kernel) ?_
          refine sw_icmp_eq (pc' := 58) (tgt := 62) rfl dX5_take_55 (by decide +kernel) (fun c55 => ?_) (fun c55 => ?_)
          · refine sw_iconst (pc' := 63) (v := 0) rfl dX5_take_62 (by decide +kernel) ?_
            refine sw_S (M' := MX5_one) (d' := d - 1) (bc' := 0) (bs' := 0) (as := [_]) dX5_take_63 w_1196 ok_X5_one (q_one (q := false)) (by omega) (Nat.le_of_ble_eq_true rfl) (Nat.zero_le _) (Nat.zero_le _) (fun E h' n' _ z => det_x z) (det_k ?_)
            show SW _ _ _ _ _ _ _ (.int 0 :: _) _ _ _
            refine sw_ret (v := some _) ⟨dX5_take_66, _, rfl, rfl⟩ ?_
            rw [opTake, onSh_k hk, if_neg qx, if_neg (fun e => Bool.noConfusion (e.symm.trans (tk_n c20))), e1]
            exact pm_k p9M p9A p9F (Nat.le_refl _)
          · exact absurd c55 (by decide +kernel)
        · exact absurd c44 (by decide +kernel)
      · refine sw_iload_n (pc' := 24) rfl dX5_take_23 rfl ?_
        refine sw_S (M' := MX5_takesNothing) (d' := d - 1) (bc' := 0) (bs' := 0) (as := [_]) dX5_take_24 w_1181 ok_X5_takesNothing (q_takesNothing (by omega)) (by omega) (Nat.le_of_ble_eq_true rfl) (Nat.zero_le _) (Nat.zero_le _) (fun E h' n' _ z => det_x z) (det_k ?_)
        rw [tn_k (k := k) (by omega)]
        refine sw_if_ne (pc' := 30) (tgt := 35) rfl dX5_take_27 (by decide +kernel) (fun c27 => ?_) (fun c27 => ?_)
        · refine sw_aload_n (pc' := 36) rfl dX5_take_35 rfl ?_
          refine sw_iload_n (pc' := 37) rfl dX5_take_36 rfl ?_
          refine sw_iload_n (pc' := 38) rfl dX5_take_37 rfl ?_
          refine sw_V (M' := MX5_firstPlace) (d' := d - 1) (bc' := 0) (bs' := 0) (ci := 6) (as := [_, _]) dX5_take_38 w_1219 ok_X5_firstPlace (q_firstPlace p9M p9A (k := k) (by omega) (hI.1 k (by omega))) p9M.ob rfl (by omega) (Nat.le_of_ble_eq_true rfl) (Nat.zero_le _) (Nat.zero_le _) (fun E h' n' _ z => det_x z) (det_k ?_)
          rw [e1]
          show SW _ _ _ _ _ _ _ (.int (-1) :: _) _ _ _
          refine sw_istore_n (pc' := 42) (lv' := [(3, _), (0, _), (1, _), (2, _)]) rfl dX5_take_41 (by decide +kernel) rfl ?_
          refine sw_iload_n (pc' := 43) rfl dX5_take_42 rfl ?_
          refine sw_iconst (pc' := 44) (v := (-1)) rfl dX5_take_43 (by decide +kernel) ?_
          refine sw_icmp_eq (pc' := 47) (tgt := 53) rfl dX5_take_44 (by decide +kernel) (fun c44 => ?_) (fun c44 => ?_)
          · refine sw_iload_n (pc' := 54) rfl dX5_take_53 rfl ?_
            refine sw_iconst (pc' := 55) (v := (-1)) rfl dX5_take_54 (by decide +kernel) ?_
            refine sw_icmp_eq (pc' := 58) (tgt := 62) rfl dX5_take_55 (by decide +kernel) (fun c55 => ?_) (fun c55 => ?_)
            · refine sw_iconst (pc' := 63) (v := 0) rfl dX5_take_62 (by decide +kernel) ?_
              refine sw_S (M' := MX5_one) (d' := d - 1) (bc' := 0) (bs' := 0) (as := [_]) dX5_take_63 w_1196 ok_X5_one (q_one (q := false)) (by omega) (Nat.le_of_ble_eq_true rfl) (Nat.zero_le _) (Nat.zero_le _) (fun E h' n' _ z => det_x z) (det_k ?_)
              show SW _ _ _ _ _ _ _ (.int 0 :: _) _ _ _
              refine sw_ret (v := some _) ⟨dX5_take_66, _, rfl, rfl⟩ ?_
              rw [opTake, onSh_k hk, if_neg qx, if_neg (fun e => Bool.noConfusion (e.symm.trans (tk_t (bI_1 c27)))), e1]
              exact pm_k p9M p9A p9F (Nat.le_refl _)
            · exact absurd c55 (by decide +kernel)
          · exact absurd c44 (by decide +kernel)
        · refine sw_aload_n (pc' := 31) rfl dX5_take_30 rfl ?_
          refine sw_V (M' := MX5_no) (d' := d - 1) (bc' := 0) (bs' := 0) (ci := 6) (as := []) dX5_take_31 w_1184 ok_X5_no (q_no p9M p9A) p9M.ob rfl (by omega) (Nat.le_of_ble_eq_true rfl) (Nat.zero_le _) (Nat.zero_le _) (fun E h' n' _ z => rp_x z) (rp_k (fun p31 p31ρ p31τ p31M p31A p31F => ?_))
          obtain ⟨Gp31, hGp31, eGp31⟩ := p31M.out
          refine sw_ret (v := some _) ⟨dX5_take_34, _, rfl, rfl⟩ ?_
          rw [opTake, onSh_k hk, if_neg qx, if_pos (tk_f c20 (bI_0 c27))]
          exact pm_k p31M p31A (p9F.tr p31F (Nat.le_refl _)) (Nat.le_refl _)
    · exact absurd c12 (by decide +kernel)
  · have hp := fp_i e1
    have h67 := hI.2.1
    refine sw_aload_n (pc' := 1) rfl dX5_take_0 rfl ?_
    refine sw_iload_n (pc' := 2) rfl dX5_take_1 rfl ?_
    refine sw_S (M' := MX5_isNone) (d' := d - 1) (bc' := 0) (bs' := 0) (as := [_]) dX5_take_2 w_1165 ok_X5_isNone (q_isNone (by omega)) (by omega) (Nat.le_of_ble_eq_true rfl) (Nat.zero_le _) (Nat.zero_le _) (fun E h' n' _ z => det_x z) (det_k ?_)
    rw [show inB (nI k) 0 10 = true from inB_k (N := 10) (by omega) (by decide +kernel)]
    show SW _ _ _ _ _ _ _ (.int 0 :: _) _ _ _
    refine sw_iload_n (pc' := 6) rfl dX5_take_5 rfl ?_
    refine sw_S (M' := MX5_isNoThing) (d' := d - 1) (bc' := 0) (bs' := 0) (as := [_]) dX5_take_6 w_1171 ok_X5_isNoThing (q_isNoThing (by omega)) (by omega) (Nat.le_of_ble_eq_true rfl) (Nat.zero_le _) (Nat.zero_le _) (fun E h' n' _ z => det_x z) (det_k ?_)
    rw [show inB x 0 100 = true from inB_n qx]
    show SW _ _ _ _ _ _ _ (.int 0 :: _) _ _ _
    refine sw_V (M' := MX5_isStopped_) (d' := d - 1) (bc' := 0) (bs' := 0) (ci := 6) (as := [_, _]) dX5_take_9 w_1215 ok_X5_isStopped_ (q_isStopped2 (a := false) (b := false) hM hA (by omega)) hM.ob rfl (by omega) (Nat.le_of_ble_eq_true rfl) (Nat.zero_le _) (Nat.zero_le _) (fun E h' n' _ z => rp_x z) (rp_k (fun p9 p9ρ p9τ p9M p9A p9F => ?_))
    obtain ⟨Gp9, hGp9, eGp9⟩ := p9M.out
    show SW _ _ _ _ _ _ _ (.int 0 :: _) _ _ _
    refine sw_if_eq (pc' := 15) (tgt := 17) rfl dX5_take_12 (by decide +kernel) (fun c12 => ?_) (fun c12 => ?_)
    · refine sw_iload_n (pc' := 18) rfl dX5_take_17 rfl ?_
      refine sw_bipush (pc' := 20) (v := 100) rfl dX5_take_18 (by decide +kernel) ?_
      refine sw_icmp_ne (pc' := 23) (tgt := 35) rfl dX5_take_20 (by decide +kernel) (fun c20 => ?_) (fun c20 => ?_)
      · refine sw_aload_n (pc' := 36) rfl dX5_take_35 rfl ?_
        refine sw_iload_n (pc' := 37) rfl dX5_take_36 rfl ?_
        refine sw_iload_n (pc' := 38) rfl dX5_take_37 rfl ?_
        refine sw_V (M' := MX5_firstPlace) (d' := d - 1) (bc' := 0) (bs' := 0) (ci := 6) (as := [_, _]) dX5_take_38 w_1219 ok_X5_firstPlace (q_firstPlace p9M p9A (k := k) (by omega) (hI.1 k (by omega))) p9M.ob rfl (by omega) (Nat.le_of_ble_eq_true rfl) (Nat.zero_le _) (Nat.zero_le _) (fun E h' n' _ z => det_x z) (det_k ?_)
        rw [e1]
        show SW _ _ _ _ _ _ _ (.int (nI p) :: _) _ _ _
        refine sw_istore_n (pc' := 42) (lv' := [(3, _), (0, _), (1, _), (2, _)]) rfl dX5_take_41 (by decide +kernel) rfl ?_
        refine sw_iload_n (pc' := 43) rfl dX5_take_42 rfl ?_
        refine sw_iconst (pc' := 44) (v := (-1)) rfl dX5_take_43 (by decide +kernel) ?_
        refine sw_icmp_eq (pc' := 47) (tgt := 53) rfl dX5_take_44 (by decide +kernel) (fun c44 => ?_) (fun c44 => ?_)
        · exact absurd c44 (nI_ne1 (by have := hI.1 6 (by decide +kernel); have := hI.1 7 (by decide +kernel); omega))
        · refine sw_aload_n (pc' := 48) rfl dX5_take_47 rfl ?_
          refine sw_iload_n (pc' := 49) rfl dX5_take_48 rfl ?_
          refine sw_iload_n (pc' := 50) rfl dX5_take_49 rfl ?_
          refine sw_V (M' := MX5_leave) (d' := d - 1) (bc' := 0) (bs' := 0) (ci := 6) (as := [_, _]) dX5_take_50 w_1223 ok_X5_leave (q_leave p9M p9A (k := k) (p := p) (by omega) (hI.1 k (by omega)) (fun _ => hp) (lv6 hI hk hp) (by omega)) p9M.ob rfl (by omega) (Nat.le_of_ble_eq_true rfl) (Nat.zero_le _) (Nat.zero_le _) (fun E h' n' _ z => rp_x z) (rp_k (fun p50 p50ρ p50τ p50M p50A p50F => ?_))
          obtain ⟨Gp50, hGp50, eGp50⟩ := p50M.out
          refine sw_iload_n (pc' := 54) rfl dX5_take_53 rfl ?_
          refine sw_iconst (pc' := 55) (v := (-1)) rfl dX5_take_54 (by decide +kernel) ?_
          refine sw_icmp_eq (pc' := 58) (tgt := 62) rfl dX5_take_55 (by decide +kernel) (fun c55 => ?_) (fun c55 => ?_)
          · exact absurd c55 (nI_ne1 (by have := hI.1 6 (by decide +kernel); have := hI.1 7 (by decide +kernel); omega))
          · refine sw_iconst (pc' := 59) (v := 1) rfl dX5_take_58 (by decide +kernel) ?_
            refine sw_goto (tgt := 63) dX5_take_59 (by decide +kernel) ?_
            refine sw_S (M' := MX5_one) (d' := d - 1) (bc' := 0) (bs' := 0) (as := [_]) dX5_take_63 w_1196 ok_X5_one (q_one (q := true)) (by omega) (Nat.le_of_ble_eq_true rfl) (Nat.zero_le _) (Nat.zero_le _) (fun E h' n' _ z => det_x z) (det_k ?_)
            show SW _ _ _ _ _ _ _ (.int 1 :: _) _ _ _
            refine sw_ret (v := some _) ⟨dX5_take_66, _, rfl, rfl⟩ ?_
            rw [opTake, onSh_k hk, if_neg qx, if_neg (fun e => Bool.noConfusion (e.symm.trans (tk_n c20))), e1]
            exact pm_k p50M p50A (p9F.tr p50F (Nat.le_refl _)) (Nat.le_refl _)
      · refine sw_iload_n (pc' := 24) rfl dX5_take_23 rfl ?_
        refine sw_S (M' := MX5_takesNothing) (d' := d - 1) (bc' := 0) (bs' := 0) (as := [_]) dX5_take_24 w_1181 ok_X5_takesNothing (q_takesNothing (by omega)) (by omega) (Nat.le_of_ble_eq_true rfl) (Nat.zero_le _) (Nat.zero_le _) (fun E h' n' _ z => det_x z) (det_k ?_)
        rw [tn_k (k := k) (by omega)]
        refine sw_if_ne (pc' := 30) (tgt := 35) rfl dX5_take_27 (by decide +kernel) (fun c27 => ?_) (fun c27 => ?_)
        · refine sw_aload_n (pc' := 36) rfl dX5_take_35 rfl ?_
          refine sw_iload_n (pc' := 37) rfl dX5_take_36 rfl ?_
          refine sw_iload_n (pc' := 38) rfl dX5_take_37 rfl ?_
          refine sw_V (M' := MX5_firstPlace) (d' := d - 1) (bc' := 0) (bs' := 0) (ci := 6) (as := [_, _]) dX5_take_38 w_1219 ok_X5_firstPlace (q_firstPlace p9M p9A (k := k) (by omega) (hI.1 k (by omega))) p9M.ob rfl (by omega) (Nat.le_of_ble_eq_true rfl) (Nat.zero_le _) (Nat.zero_le _) (fun E h' n' _ z => det_x z) (det_k ?_)
          rw [e1]
          show SW _ _ _ _ _ _ _ (.int (nI p) :: _) _ _ _
          refine sw_istore_n (pc' := 42) (lv' := [(3, _), (0, _), (1, _), (2, _)]) rfl dX5_take_41 (by decide +kernel) rfl ?_
          refine sw_iload_n (pc' := 43) rfl dX5_take_42 rfl ?_
          refine sw_iconst (pc' := 44) (v := (-1)) rfl dX5_take_43 (by decide +kernel) ?_
          refine sw_icmp_eq (pc' := 47) (tgt := 53) rfl dX5_take_44 (by decide +kernel) (fun c44 => ?_) (fun c44 => ?_)
          · exact absurd c44 (nI_ne1 (by have := hI.1 6 (by decide +kernel); have := hI.1 7 (by decide +kernel); omega))
          · refine sw_aload_n (pc' := 48) rfl dX5_take_47 rfl ?_
            refine sw_iload_n (pc' := 49) rfl dX5_take_48 rfl ?_
            refine sw_iload_n (pc' := 50) rfl dX5_take_49 rfl ?_
            refine sw_V (M' := MX5_leave) (d' := d - 1) (bc' := 0) (bs' := 0) (ci := 6) (as := [_, _]) dX5_take_50 w_1223 ok_X5_leave (q_leave p9M p9A (k := k) (p := p) (by omega) (hI.1 k (by omega)) (fun _ => hp) (lv6 hI hk hp) (by omega)) p9M.ob rfl (by omega) (Nat.le_of_ble_eq_true rfl) (Nat.zero_le _) (Nat.zero_le _) (fun E h' n' _ z => rp_x z) (rp_k (fun p50 p50ρ p50τ p50M p50A p50F => ?_))
            obtain ⟨Gp50, hGp50, eGp50⟩ := p50M.out
            refine sw_iload_n (pc' := 54) rfl dX5_take_53 rfl ?_
            refine sw_iconst (pc' := 55) (v := (-1)) rfl dX5_take_54 (by decide +kernel) ?_
            refine sw_icmp_eq (pc' := 58) (tgt := 62) rfl dX5_take_55 (by decide +kernel) (fun c55 => ?_) (fun c55 => ?_)
            · exact absurd c55 (nI_ne1 (by have := hI.1 6 (by decide +kernel); have := hI.1 7 (by decide +kernel); omega))
            · refine sw_iconst (pc' := 59) (v := 1) rfl dX5_take_58 (by decide +kernel) ?_
              refine sw_goto (tgt := 63) dX5_take_59 (by decide +kernel) ?_
              refine sw_S (M' := MX5_one) (d' := d - 1) (bc' := 0) (bs' := 0) (as := [_]) dX5_take_63 w_1196 ok_X5_one (q_one (q := true)) (by omega) (Nat.le_of_ble_eq_true rfl) (Nat.zero_le _) (Nat.zero_le _) (fun E h' n' _ z => det_x z) (det_k ?_)
              show SW _ _ _ _ _ _ _ (.int 1 :: _) _ _ _
              refine sw_ret (v := some _) ⟨dX5_take_66, _, rfl, rfl⟩ ?_
              rw [opTake, onSh_k hk, if_neg qx, if_neg (fun e => Bool.noConfusion (e.symm.trans (tk_t (bI_1 c27)))), e1]
              exact pm_k p50M p50A (p9F.tr p50F (Nat.le_refl _)) (Nat.le_refl _)
        · refine sw_aload_n (pc' := 31) rfl dX5_take_30 rfl ?_
          refine sw_V (M' := MX5_no) (d' := d - 1) (bc' := 0) (bs' := 0) (ci := 6) (as := []) dX5_take_31 w_1184 ok_X5_no (q_no p9M p9A) p9M.ob rfl (by omega) (Nat.le_of_ble_eq_true rfl) (Nat.zero_le _) (Nat.zero_le _) (fun E h' n' _ z => rp_x z) (rp_k (fun p31 p31ρ p31τ p31M p31A p31F => ?_))
          obtain ⟨Gp31, hGp31, eGp31⟩ := p31M.out
          refine sw_ret (v := some _) ⟨dX5_take_34, _, rfl, rfl⟩ ?_
          rw [opTake, onSh_k hk, if_neg qx, if_pos (tk_f c20 (bI_0 c27))]
          exact pm_k p31M p31A (p9F.tr p31F (Nat.le_refl _)) (Nat.le_refl _)
    · exact absurd c12 (by decide +kernel)
theorem q_clear {h : AH} {d bc bs n : Nat} {σ : CS} {th : Int32} {a : Int32} (hR : RMo h σ th) (hI : Iv σ) (hn : 159 ≤ n) (hd : 8 ≤ d) (h1 : 1 ≤ bc) (h2 : 12 ≤ bs)  : SM SR0 MX5_clear d bc bs [.ref 135, .int a] h n (PM h n (tc sI sI) (opClear σ a)) := by
  obtain ⟨ρ, τ, hM, hA⟩ := hR
  obtain ⟨G0, hG0, eG0⟩ := hM.out
  refine sm_of pn_OverwalksModel rfl (Nat.le_of_ble_eq_true rfl) ?_
  rcases idxN 11 (by decide +kernel) a with qk1 | ⟨k, hk, rfl⟩
  · refine sw_aload_n (pc' := 1) rfl dX5_clear_0 rfl ?_
    refine sw_iload_n (pc' := 2) rfl dX5_clear_1 rfl ?_
    refine sw_S (M' := MX5_isNone) (d' := d - 1) (bc' := 0) (bs' := 0) (as := [_]) dX5_clear_2 w_1165 ok_X5_isNone (q_isNone (by omega)) (by omega) (Nat.le_of_ble_eq_true rfl) (Nat.zero_le _) (Nat.zero_le _) (fun E h' n' _ z => det_x z) (det_k ?_)
    rw [show inB a 0 10 = false from no_x (N := 10) (by decide +kernel) qk1]
    show SW _ _ _ _ _ _ _ (.int 1 :: _) _ _ _
    refine sw_V (M' := MX5_isStopped__) (d' := d - 1) (bc' := 0) (bs' := 0) (ci := 6) (as := [_]) dX5_clear_5 w_1235 ok_X5_isStopped__ (q_isStopped1 (a := true) hM hA (by omega)) hM.ob rfl (by omega) (Nat.le_of_ble_eq_true rfl) (Nat.zero_le _) (Nat.zero_le _) (fun E h' n' _ z => rp_x z) (rp_k (fun p5 p5ρ p5τ p5M p5A p5F => ?_))
    obtain ⟨Gp5, hGp5, eGp5⟩ := p5M.out
    show SW _ _ _ _ _ _ _ (.int 1 :: _) _ _ _
    refine sw_if_eq (pc' := 11) (tgt := 13) rfl dX5_clear_8 (by decide +kernel) (fun c8 => ?_) (fun c8 => ?_)
    · exact absurd c8 (by decide +kernel)
    · refine sw_iconst (pc' := 12) (v := 0) rfl dX5_clear_11 (by decide +kernel) ?_
      refine sw_ret (v := some _) ⟨dX5_clear_12, _, rfl, rfl⟩ ?_
      rw [opClear, onSh_x qk1]
      exact pm_x tc_1 p5M p5A p5F (Nat.le_refl _)
  have hck := hI.1 k hk
  refine sw_aload_n (pc' := 1) rfl dX5_clear_0 rfl ?_
  refine sw_iload_n (pc' := 2) rfl dX5_clear_1 rfl ?_
  refine sw_S (M' := MX5_isNone) (d' := d - 1) (bc' := 0) (bs' := 0) (as := [_]) dX5_clear_2 w_1165 ok_X5_isNone (q_isNone (by omega)) (by omega) (Nat.le_of_ble_eq_true rfl) (Nat.zero_le _) (Nat.zero_le _) (fun E h' n' _ z => det_x z) (det_k ?_)
  rw [show inB (nI k) 0 10 = true from inB_k (N := 10) (by omega) (by decide +kernel)]
  show SW _ _ _ _ _ _ _ (.int 0 :: _) _ _ _
  refine sw_V (M' := MX5_isStopped__) (d' := d - 1) (bc' := 0) (bs' := 0) (ci := 6) (as := [_]) dX5_clear_5 w_1235 ok_X5_isStopped__ (q_isStopped1 (a := false) hM hA (by omega)) hM.ob rfl (by omega) (Nat.le_of_ble_eq_true rfl) (Nat.zero_le _) (Nat.zero_le _) (fun E h' n' _ z => rp_x z) (rp_k (fun p5 p5ρ p5τ p5M p5A p5F => ?_))
  obtain ⟨Gp5, hGp5, eGp5⟩ := p5M.out
  show SW _ _ _ _ _ _ _ (.int 0 :: _) _ _ _
  refine sw_if_eq (pc' := 11) (tgt := 13) rfl dX5_clear_8 (by decide +kernel) (fun c8 => ?_) (fun c8 => ?_)
  · refine sw_aload_n (pc' := 14) rfl dX5_clear_13 rfl ?_
    refine sw_getf (ci := 6) (k := 4) (pc' := 17) rfl dX5_clear_14 (by decide +kernel) w_1117 p5M.ob rfl ?_
    refine sw_iload_n (pc' := 18) rfl dX5_clear_17 rfl ?_
    refine sw_iald (j := k) (pc' := 19) rfl dX5_clear_18 p5M.sz rfl (by omega) (by decide +kernel) ?_
    refine sw_istore_n (pc' := 20) (lv' := [(2, _), (0, _), (1, _)]) rfl dX5_clear_19 (by decide +kernel) rfl ?_
    refine sw_iload_n (pc' := 21) rfl dX5_clear_20 rfl ?_
    refine sw_S (M' := MX5_isTable) (d' := d - 1) (bc' := 0) (bs' := 0) (as := [_]) dX5_clear_21 w_1178 ok_X5_isTable (q_isTable) (by omega) (Nat.le_of_ble_eq_true rfl) (Nat.zero_le _) (Nat.zero_le _) (fun E h' n' _ z => det_x z) (det_k ?_)
    rw [tb_k (k := k) (by omega)]
    refine sw_if_eq (pc' := 27) (tgt := 42) rfl dX5_clear_24 (by decide +kernel) (fun c24 => ?_) (fun c24 => ?_)
    · refine sw_aload_n (pc' := 43) rfl dX5_clear_42 rfl ?_
      refine sw_iload_n (pc' := 44) rfl dX5_clear_43 rfl ?_
      refine sw_V (M' := MX5_empty) (d' := d - 1) (bc' := 0) (bs' := 0) (ci := 6) (as := [_]) dX5_clear_44 w_1239 ok_X5_empty (q_empty p5M p5A (k := k) (by omega) (hI.1 k (by omega))) p5M.ob rfl (by omega) (Nat.le_of_ble_eq_true rfl) (Nat.zero_le _) (Nat.zero_le _) (fun E h' n' _ z => rp_x z) (rp_k (fun p44 p44ρ p44τ p44M p44A p44F => ?_))
      obtain ⟨Gp44, hGp44, eGp44⟩ := p44M.out
      refine sw_iload_n (pc' := 48) rfl dX5_clear_47 rfl ?_
      refine sw_ret (v := some _) ⟨dX5_clear_48, _, rfl, rfl⟩ ?_
      rw [opClear, onSh_k hk, laU, if_neg (of_decide_eq_false (bI_0 c24))]
      exact pm_k p44M p44A (p5F.tr p44F (Nat.le_refl _)) (Nat.le_refl _)
    · refine sw_aload_n (pc' := 28) rfl dX5_clear_27 rfl ?_
      refine sw_bipush (pc' := 30) (v := 6) rfl dX5_clear_28 (by decide +kernel) ?_
      refine sw_V (M' := MX5_empty) (d' := d - 1) (bc' := 0) (bs' := 0) (ci := 6) (as := [_]) dX5_clear_30 w_1239 ok_X5_empty (q_empty p5M p5A (k := 6) (by omega) (hI.1 6 (by omega))) p5M.ob rfl (by omega) (Nat.le_of_ble_eq_true rfl) (Nat.zero_le _) (Nat.zero_le _) (fun E h' n' _ z => rp_x z) (rp_k (fun p30 p30ρ p30τ p30M p30A p30F => ?_))
      obtain ⟨Gp30, hGp30, eGp30⟩ := p30M.out
      refine sw_aload_n (pc' := 34) rfl dX5_clear_33 rfl ?_
      refine sw_bipush (pc' := 36) (v := 7) rfl dX5_clear_34 (by decide +kernel) ?_
      refine sw_V (M' := MX5_empty) (d' := d - 1) (bc' := 0) (bs' := 0) (ci := 6) (as := [_]) dX5_clear_36 w_1239 ok_X5_empty (q_empty p30M p30A (k := 7) (by omega) (hI.1 7 (by omega))) p30M.ob rfl (by omega) (Nat.le_of_ble_eq_true rfl) (Nat.zero_le _) (Nat.zero_le _) (fun E h' n' _ z => rp_x z) (rp_k (fun p36 p36ρ p36τ p36M p36A p36F => ?_))
      obtain ⟨Gp36, hGp36, eGp36⟩ := p36M.out
      refine sw_goto (tgt := 47) dX5_clear_39 (by decide +kernel) ?_
      refine sw_iload_n (pc' := 48) rfl dX5_clear_47 rfl ?_
      refine sw_ret (v := some _) ⟨dX5_clear_48, _, rfl, rfl⟩ ?_
      rw [opClear, onSh_k hk, laU, if_pos (of_decide_eq_true (bI_1 c24))]
      exact pm_k p36M p36A ((p5F.tr p30F (Nat.le_refl _)).tr p36F (Nat.le_refl _)) (Nat.le_refl _)
  · exact absurd c8 (by decide +kernel)
theorem q_change {h : AH} {d bc bs n : Nat} {σ : CS} {th : Int32} {a p x : Int32} (hR : RMo h σ th) (hI : Iv σ) (hn : 159 ≤ n) (hd : 8 ≤ d) (h1 : 1 ≤ bc) (h2 : 12 ≤ bs)  : SM SR0 MX5_change d bc bs [.ref 135, .int a, .int p, .int x] h n (PM h n (tc sI sA) (opChange σ a p x)) := by
  obtain ⟨ρ, τ, hM, hA⟩ := hR
  obtain ⟨G0, hG0, eG0⟩ := hM.out
  refine sm_of pn_OverwalksModel rfl (Nat.le_of_ble_eq_true rfl) ?_
  rcases idxN 11 (by decide +kernel) a with qk1 | ⟨k, hk, rfl⟩
  · refine sw_aload_n (pc' := 1) rfl dX5_change_0 rfl ?_
    refine sw_aload_n (pc' := 2) rfl dX5_change_1 rfl ?_
    refine sw_iload_n (pc' := 3) rfl dX5_change_2 rfl ?_
    refine sw_iload_n (pc' := 4) rfl dX5_change_3 rfl ?_
    refine sw_V (M' := MX5_isNoPlace) (d' := d - 1) (bc' := 0) (bs' := 0) (ci := 6) (as := [_, _]) dX5_change_4 w_1263 ok_X5_isNoPlace (q_isNoPlace hM (by omega)) hM.ob rfl (by omega) (Nat.le_of_ble_eq_true rfl) (Nat.zero_le _) (Nat.zero_le _) (fun E h' n' _ z => det_x z) (det_k ?_)
    rw [show npB σ a p = true from np_r (nrB_x qk1)]
    show SW _ _ _ _ _ _ _ (.int 1 :: _) _ _ _
    refine sw_iload_n (pc' := 8) rfl dX5_change_7 rfl ?_
    refine sw_S (M' := MX5_isNoThing) (d' := d - 1) (bc' := 0) (bs' := 0) (as := [_]) dX5_change_8 w_1171 ok_X5_isNoThing (q_isNoThing (by omega)) (by omega) (Nat.le_of_ble_eq_true rfl) (Nat.zero_le _) (Nat.zero_le _) (fun E h' n' _ z => det_x z) (det_k ?_)
    refine sw_V (M' := MX5_isStopped_) (d' := d - 1) (bc' := 0) (bs' := 0) (ci := 6) (as := [_, _]) dX5_change_11 w_1215 ok_X5_isStopped_ (q_isStopped2 (a := true) (b := (!inB x 0 100)) hM hA (by omega)) hM.ob rfl (by omega) (Nat.le_of_ble_eq_true rfl) (Nat.zero_le _) (Nat.zero_le _) (fun E h' n' _ z => rp_x z) (rp_k (fun p11 p11ρ p11τ p11M p11A p11F => ?_))
    obtain ⟨Gp11, hGp11, eGp11⟩ := p11M.out
    show SW _ _ _ _ _ _ _ (.int 1 :: _) _ _ _
    refine sw_if_eq (pc' := 17) (tgt := 19) rfl dX5_change_14 (by decide +kernel) (fun c14 => ?_) (fun c14 => ?_)
    · exact absurd c14 (by decide +kernel)
    · refine sw_iconst (pc' := 18) (v := 0) rfl dX5_change_17 (by decide +kernel) ?_
      refine sw_ret (v := some _) ⟨dX5_change_18, _, rfl, rfl⟩ ?_
      rw [opChange, onRw_x qk1]
      exact pm_x tc_1 p11M p11A p11F (Nat.le_refl _)
  rcases Classical.em (kP (kdO k) = false) with qk | qk
  · refine sw_aload_n (pc' := 1) rfl dX5_change_0 rfl ?_
    refine sw_aload_n (pc' := 2) rfl dX5_change_1 rfl ?_
    refine sw_iload_n (pc' := 3) rfl dX5_change_2 rfl ?_
    refine sw_iload_n (pc' := 4) rfl dX5_change_3 rfl ?_
    refine sw_V (M' := MX5_isNoPlace) (d' := d - 1) (bc' := 0) (bs' := 0) (ci := 6) (as := [_, _]) dX5_change_4 w_1263 ok_X5_isNoPlace (q_isNoPlace hM (by omega)) hM.ob rfl (by omega) (Nat.le_of_ble_eq_true rfl) (Nat.zero_le _) (Nat.zero_le _) (fun E h' n' _ z => det_x z) (det_k ?_)
    rw [show npB σ (nI k) p = true from np_r (nrB_y hk qk)]
    show SW _ _ _ _ _ _ _ (.int 1 :: _) _ _ _
    refine sw_iload_n (pc' := 8) rfl dX5_change_7 rfl ?_
    refine sw_S (M' := MX5_isNoThing) (d' := d - 1) (bc' := 0) (bs' := 0) (as := [_]) dX5_change_8 w_1171 ok_X5_isNoThing (q_isNoThing (by omega)) (by omega) (Nat.le_of_ble_eq_true rfl) (Nat.zero_le _) (Nat.zero_le _) (fun E h' n' _ z => det_x z) (det_k ?_)
    refine sw_V (M' := MX5_isStopped_) (d' := d - 1) (bc' := 0) (bs' := 0) (ci := 6) (as := [_, _]) dX5_change_11 w_1215 ok_X5_isStopped_ (q_isStopped2 (a := true) (b := (!inB x 0 100)) hM hA (by omega)) hM.ob rfl (by omega) (Nat.le_of_ble_eq_true rfl) (Nat.zero_le _) (Nat.zero_le _) (fun E h' n' _ z => rp_x z) (rp_k (fun p11 p11ρ p11τ p11M p11A p11F => ?_))
    obtain ⟨Gp11, hGp11, eGp11⟩ := p11M.out
    show SW _ _ _ _ _ _ _ (.int 1 :: _) _ _ _
    refine sw_if_eq (pc' := 17) (tgt := 19) rfl dX5_change_14 (by decide +kernel) (fun c14 => ?_) (fun c14 => ?_)
    · exact absurd c14 (by decide +kernel)
    · refine sw_iconst (pc' := 18) (v := 0) rfl dX5_change_17 (by decide +kernel) ?_
      refine sw_ret (v := some _) ⟨dX5_change_18, _, rfl, rfl⟩ ?_
      rw [opChange, onRw_y hk qk]
      exact pm_x tc_1 p11M p11A p11F (Nat.le_refl _)
  have hck := hI.1 k hk
  rcases idxN (σ.2.1 k) (by omega) p with qP | ⟨P, hP, rfl⟩
  · refine sw_aload_n (pc' := 1) rfl dX5_change_0 rfl ?_
    refine sw_aload_n (pc' := 2) rfl dX5_change_1 rfl ?_
    refine sw_iload_n (pc' := 3) rfl dX5_change_2 rfl ?_
    refine sw_iload_n (pc' := 4) rfl dX5_change_3 rfl ?_
    refine sw_V (M' := MX5_isNoPlace) (d' := d - 1) (bc' := 0) (bs' := 0) (ci := 6) (as := [_, _]) dX5_change_4 w_1263 ok_X5_isNoPlace (q_isNoPlace hM (by omega)) hM.ob rfl (by omega) (Nat.le_of_ble_eq_true rfl) (Nat.zero_le _) (Nat.zero_le _) (fun E h' n' _ z => det_x z) (det_k ?_)
    rw [show npB σ (nI k) p = true from np_b (by omega) (by omega) qP]
    show SW _ _ _ _ _ _ _ (.int 1 :: _) _ _ _
    refine sw_iload_n (pc' := 8) rfl dX5_change_7 rfl ?_
    refine sw_S (M' := MX5_isNoThing) (d' := d - 1) (bc' := 0) (bs' := 0) (as := [_]) dX5_change_8 w_1171 ok_X5_isNoThing (q_isNoThing (by omega)) (by omega) (Nat.le_of_ble_eq_true rfl) (Nat.zero_le _) (Nat.zero_le _) (fun E h' n' _ z => det_x z) (det_k ?_)
    refine sw_V (M' := MX5_isStopped_) (d' := d - 1) (bc' := 0) (bs' := 0) (ci := 6) (as := [_, _]) dX5_change_11 w_1215 ok_X5_isStopped_ (q_isStopped2 (a := true) (b := (!inB x 0 100)) hM hA (by omega)) hM.ob rfl (by omega) (Nat.le_of_ble_eq_true rfl) (Nat.zero_le _) (Nat.zero_le _) (fun E h' n' _ z => rp_x z) (rp_k (fun p11 p11ρ p11τ p11M p11A p11F => ?_))
    obtain ⟨Gp11, hGp11, eGp11⟩ := p11M.out
    show SW _ _ _ _ _ _ _ (.int 1 :: _) _ _ _
    refine sw_if_eq (pc' := 17) (tgt := 19) rfl dX5_change_14 (by decide +kernel) (fun c14 => ?_) (fun c14 => ?_)
    · exact absurd c14 (by decide +kernel)
    · refine sw_iconst (pc' := 18) (v := 0) rfl dX5_change_17 (by decide +kernel) ?_
      refine sw_ret (v := some _) ⟨dX5_change_18, _, rfl, rfl⟩ ?_
      rw [opChange, onRw_k hk qk, if_pos qP]
      exact pm_x tc_1 p11M p11A p11F (Nat.le_refl _)
  rcases Classical.em (x < 0 ∨ 100 < x) with qx | qx
  · refine sw_aload_n (pc' := 1) rfl dX5_change_0 rfl ?_
    refine sw_aload_n (pc' := 2) rfl dX5_change_1 rfl ?_
    refine sw_iload_n (pc' := 3) rfl dX5_change_2 rfl ?_
    refine sw_iload_n (pc' := 4) rfl dX5_change_3 rfl ?_
    refine sw_V (M' := MX5_isNoPlace) (d' := d - 1) (bc' := 0) (bs' := 0) (ci := 6) (as := [_, _]) dX5_change_4 w_1263 ok_X5_isNoPlace (q_isNoPlace hM (by omega)) hM.ob rfl (by omega) (Nat.le_of_ble_eq_true rfl) (Nat.zero_le _) (Nat.zero_le _) (fun E h' n' _ z => det_x z) (det_k ?_)
    rw [show npB σ (nI k) (nI P) = false from np_k (by omega) (nrB_k hk qk) (by omega) hP]
    show SW _ _ _ _ _ _ _ (.int 0 :: _) _ _ _
    refine sw_iload_n (pc' := 8) rfl dX5_change_7 rfl ?_
    refine sw_S (M' := MX5_isNoThing) (d' := d - 1) (bc' := 0) (bs' := 0) (as := [_]) dX5_change_8 w_1171 ok_X5_isNoThing (q_isNoThing (by omega)) (by omega) (Nat.le_of_ble_eq_true rfl) (Nat.zero_le _) (Nat.zero_le _) (fun E h' n' _ z => det_x z) (det_k ?_)
    rw [show inB x 0 100 = false from inB_x qx]
    show SW _ _ _ _ _ _ _ (.int 1 :: _) _ _ _
    refine sw_V (M' := MX5_isStopped_) (d' := d - 1) (bc' := 0) (bs' := 0) (ci := 6) (as := [_, _]) dX5_change_11 w_1215 ok_X5_isStopped_ (q_isStopped2 (a := false) (b := true) hM hA (by omega)) hM.ob rfl (by omega) (Nat.le_of_ble_eq_true rfl) (Nat.zero_le _) (Nat.zero_le _) (fun E h' n' _ z => rp_x z) (rp_k (fun p11 p11ρ p11τ p11M p11A p11F => ?_))
    obtain ⟨Gp11, hGp11, eGp11⟩ := p11M.out
    show SW _ _ _ _ _ _ _ (.int 1 :: _) _ _ _
    refine sw_if_eq (pc' := 17) (tgt := 19) rfl dX5_change_14 (by decide +kernel) (fun c14 => ?_) (fun c14 => ?_)
    · exact absurd c14 (by decide +kernel)
    · refine sw_iconst (pc' := 18) (v := 0) rfl dX5_change_17 (by decide +kernel) ?_
      refine sw_ret (v := some _) ⟨dX5_change_18, _, rfl, rfl⟩ ?_
      rw [opChange, onRw_k hk qk, if_neg (nok (by omega) hP), nI_clamp (n := P) (by omega), if_pos qx]
      exact pm_x (tc_2 sAI) p11M p11A p11F (Nat.le_refl _)
  refine sw_aload_n (pc' := 1) rfl dX5_change_0 rfl ?_
  refine sw_aload_n (pc' := 2) rfl dX5_change_1 rfl ?_
  refine sw_iload_n (pc' := 3) rfl dX5_change_2 rfl ?_
  refine sw_iload_n (pc' := 4) rfl dX5_change_3 rfl ?_
  refine sw_V (M' := MX5_isNoPlace) (d' := d - 1) (bc' := 0) (bs' := 0) (ci := 6) (as := [_, _]) dX5_change_4 w_1263 ok_X5_isNoPlace (q_isNoPlace hM (by omega)) hM.ob rfl (by omega) (Nat.le_of_ble_eq_true rfl) (Nat.zero_le _) (Nat.zero_le _) (fun E h' n' _ z => det_x z) (det_k ?_)
  rw [show npB σ (nI k) (nI P) = false from np_k (by omega) (nrB_k hk qk) (by omega) hP]
  show SW _ _ _ _ _ _ _ (.int 0 :: _) _ _ _
  refine sw_iload_n (pc' := 8) rfl dX5_change_7 rfl ?_
  refine sw_S (M' := MX5_isNoThing) (d' := d - 1) (bc' := 0) (bs' := 0) (as := [_]) dX5_change_8 w_1171 ok_X5_isNoThing (q_isNoThing (by omega)) (by omega) (Nat.le_of_ble_eq_true rfl) (Nat.zero_le _) (Nat.zero_le _) (fun E h' n' _ z => det_x z) (det_k ?_)
  rw [show inB x 0 100 = true from inB_n qx]
  show SW _ _ _ _ _ _ _ (.int 0 :: _) _ _ _
  refine sw_V (M' := MX5_isStopped_) (d' := d - 1) (bc' := 0) (bs' := 0) (ci := 6) (as := [_, _]) dX5_change_11 w_1215 ok_X5_isStopped_ (q_isStopped2 (a := false) (b := false) hM hA (by omega)) hM.ob rfl (by omega) (Nat.le_of_ble_eq_true rfl) (Nat.zero_le _) (Nat.zero_le _) (fun E h' n' _ z => rp_x z) (rp_k (fun p11 p11ρ p11τ p11M p11A p11F => ?_))
  obtain ⟨Gp11, hGp11, eGp11⟩ := p11M.out
  show SW _ _ _ _ _ _ _ (.int 0 :: _) _ _ _
  refine sw_if_eq (pc' := 17) (tgt := 19) rfl dX5_change_14 (by decide +kernel) (fun c14 => ?_) (fun c14 => ?_)
  · refine sw_aload_n (pc' := 20) rfl dX5_change_19 rfl ?_
    refine sw_getf (ci := 6) (k := 3) (pc' := 23) rfl dX5_change_20 (by decide +kernel) w_1116 p11M.ob rfl ?_
    refine sw_iload_n (pc' := 24) rfl dX5_change_23 rfl ?_
    refine sw_aald (j := k) (pc' := 25) rfl dX5_change_24 hGp11 (by decide +kernel) (by decide +kernel) rfl (by omega) (by decide +kernel) (eGp11 k (by omega)) ?_
    refine sw_iload_n (pc' := 26) rfl dX5_change_25 rfl ?_
    refine sw_iald (j := P) (pc' := 27) rfl dX5_change_26 (p11M.row (k := k) (by omega)) rfl (by omega) (by decide +kernel) ?_
    rw [p11A.1 k (by omega) P (by omega)]
    refine sw_istore (pc' := 29) (lv' := [(4, _), (0, _), (1, _), (2, _), (3, _)]) rfl dX5_change_27 (by decide +kernel) rfl ?_
    refine sw_aload_n (pc' := 30) rfl dX5_change_29 rfl ?_
    refine sw_getf (ci := 6) (k := 3) (pc' := 33) rfl dX5_change_30 (by decide +kernel) w_1116 p11M.ob rfl ?_
    refine sw_iload_n (pc' := 34) rfl dX5_change_33 rfl ?_
    refine sw_aald (j := k) (pc' := 35) rfl dX5_change_34 hGp11 (by decide +kernel) (by decide +kernel) rfl (by omega) (by decide +kernel) (eGp11 k (by omega)) ?_
    refine sw_iload_n (pc' := 36) rfl dX5_change_35 rfl ?_
    refine sw_iload_n (pc' := 37) rfl dX5_change_36 rfl ?_
    refine sw_iast (j := P) (pc' := 38) rfl dX5_change_37 (p11M.row (k := k) (by omega)) (by show 100 ≤ _; omega) rfl (by omega) (by decide +kernel) ?_
    refine sw_nm (fun g1 eg1 => ?_)
    have zg1 := (congrFun eg1 (137 + k)).trans (up_s (h := p11) (i := (137 + k)))
    refine sw_aload_n (pc' := 39) rfl dX5_change_38 rfl ?_
    refine sw_getf (ci := 6) (k := 12) (pc' := 42) rfl dX5_change_39 (by decide +kernel) w_1125 (((congrFun eg1 135).trans (up_n (by omega))).trans p11M.ob) rfl ?_
    refine sw_iload_n (pc' := 43) rfl dX5_change_42 rfl ?_
    refine sw_dup2 (pc' := 44) rfl dX5_change_43 rfl rfl ?_
    refine sw_iald (j := k) (pc' := 45) rfl dX5_change_44 (((congrFun eg1 156).trans (up_n (by omega))).trans p11M.tu) rfl (by omega) (by decide +kernel) ?_
    refine sw_iconst (pc' := 46) (v := 1) rfl dX5_change_45 (by decide +kernel) ?_
    refine sw_iadd (pc' := 47) rfl dX5_change_46 ?_
    refine sw_iast (j := k) (pc' := 48) rfl dX5_change_47 (((congrFun eg1 156).trans (up_n (by omega))).trans p11M.tu) (by decide +kernel) rfl (by omega) (by decide +kernel) ?_
    refine sw_nm (fun g2 eg2 => ?_)
    have zg2 := (congrFun eg2 156).trans (up_s (h := g1) (i := 156))
    refine sw_iload (pc' := 50) rfl dX5_change_48 rfl ?_
    refine sw_ret (v := some _) ⟨dX5_change_50, _, rfl, rfl⟩ ?_
    rw [opChange, onRw_k hk qk, if_neg (nok (by omega) hP), nI_clamp (n := P) (by omega), if_neg qx]
    exact pm_k (p11M.rwT hk (((congrFun eg2 (137 + k)).trans (up_n (by omega))).trans zg1) zg2 (fun i h1 h2 => (congrFun eg2 i).trans ((up_n (by omega)).trans ((congrFun eg1 i).trans ((up_n (by omega)).trans (rfl)))))) (p11A.shU (up_at (p11A.1 k hk))) (p11F.tr (FrM.of1 (fun i q => (congrFun eg2 i).trans ((up_n (by omega)).trans ((congrFun eg1 i).trans ((up_n (by omega)).trans (rfl)))))) (Nat.le_refl _)) (Nat.le_refl _)
  · exact absurd c14 (by decide +kernel)
theorem q_remove {h : AH} {d bc bs n : Nat} {σ : CS} {th : Int32} {a p : Int32} (hR : RMo h σ th) (hI : Iv σ) (hn : 159 ≤ n) (hd : 8 ≤ d) (h1 : 1 ≤ bc) (h2 : 12 ≤ bs)  : SM SR0 MX5_remove d bc bs [.ref 135, .int a, .int p] h n (PM h n (tc sI sI) (opRemove σ a p)) := by
  obtain ⟨ρ, τ, hM, hA⟩ := hR
  obtain ⟨G0, hG0, eG0⟩ := hM.out
  refine sm_of pn_OverwalksModel rfl (Nat.le_of_ble_eq_true rfl) ?_
  rcases idxN 11 (by decide +kernel) a with qk1 | ⟨k, hk, rfl⟩
  · refine sw_aload_n (pc' := 1) rfl dX5_remove_0 rfl ?_
    refine sw_aload_n (pc' := 2) rfl dX5_remove_1 rfl ?_
    refine sw_iload_n (pc' := 3) rfl dX5_remove_2 rfl ?_
    refine sw_iload_n (pc' := 4) rfl dX5_remove_3 rfl ?_
    refine sw_V (M' := MX5_isNoPlace) (d' := d - 1) (bc' := 0) (bs' := 0) (ci := 6) (as := [_, _]) dX5_remove_4 w_1263 ok_X5_isNoPlace (q_isNoPlace hM (by omega)) hM.ob rfl (by omega) (Nat.le_of_ble_eq_true rfl) (Nat.zero_le _) (Nat.zero_le _) (fun E h' n' _ z => det_x z) (det_k ?_)
    rw [show npB σ a p = true from np_r (nrB_x qk1)]
    show SW _ _ _ _ _ _ _ (.int 1 :: _) _ _ _
    refine sw_V (M' := MX5_isStopped__) (d' := d - 1) (bc' := 0) (bs' := 0) (ci := 6) (as := [_]) dX5_remove_7 w_1235 ok_X5_isStopped__ (q_isStopped1 (a := true) hM hA (by omega)) hM.ob rfl (by omega) (Nat.le_of_ble_eq_true rfl) (Nat.zero_le _) (Nat.zero_le _) (fun E h' n' _ z => rp_x z) (rp_k (fun p7 p7ρ p7τ p7M p7A p7F => ?_))
    obtain ⟨Gp7, hGp7, eGp7⟩ := p7M.out
    show SW _ _ _ _ _ _ _ (.int 1 :: _) _ _ _
    refine sw_if_eq (pc' := 13) (tgt := 15) rfl dX5_remove_10 (by decide +kernel) (fun c10 => ?_) (fun c10 => ?_)
    · exact absurd c10 (by decide +kernel)
    · refine sw_iconst (pc' := 14) (v := 0) rfl dX5_remove_13 (by decide +kernel) ?_
      refine sw_ret (v := some _) ⟨dX5_remove_14, _, rfl, rfl⟩ ?_
      rw [opRemove, onRw_x qk1]
      exact pm_x tc_1 p7M p7A p7F (Nat.le_refl _)
  rcases Classical.em (kP (kdO k) = false) with qk | qk
  · refine sw_aload_n (pc' := 1) rfl dX5_remove_0 rfl ?_
    refine sw_aload_n (pc' := 2) rfl dX5_remove_1 rfl ?_
    refine sw_iload_n (pc' := 3) rfl dX5_remove_2 rfl ?_
    refine sw_iload_n (pc' := 4) rfl dX5_remove_3 rfl ?_
    refine sw_V (M' := MX5_isNoPlace) (d' := d - 1) (bc' := 0) (bs' := 0) (ci := 6) (as := [_, _]) dX5_remove_4 w_1263 ok_X5_isNoPlace (q_isNoPlace hM (by omega)) hM.ob rfl (by omega) (Nat.le_of_ble_eq_true rfl) (Nat.zero_le _) (Nat.zero_le _) (fun E h' n' _ z => det_x z) (det_k ?_)
    rw [show npB σ (nI k) p = true from np_r (nrB_y hk qk)]
    show SW _ _ _ _ _ _ _ (.int 1 :: _) _ _ _
    refine sw_V (M' := MX5_isStopped__) (d' := d - 1) (bc' := 0) (bs' := 0) (ci := 6) (as := [_]) dX5_remove_7 w_1235 ok_X5_isStopped__ (q_isStopped1 (a := true) hM hA (by omega)) hM.ob rfl (by omega) (Nat.le_of_ble_eq_true rfl) (Nat.zero_le _) (Nat.zero_le _) (fun E h' n' _ z => rp_x z) (rp_k (fun p7 p7ρ p7τ p7M p7A p7F => ?_))
    obtain ⟨Gp7, hGp7, eGp7⟩ := p7M.out
    show SW _ _ _ _ _ _ _ (.int 1 :: _) _ _ _
    refine sw_if_eq (pc' := 13) (tgt := 15) rfl dX5_remove_10 (by decide +kernel) (fun c10 => ?_) (fun c10 => ?_)
    · exact absurd c10 (by decide +kernel)
    · refine sw_iconst (pc' := 14) (v := 0) rfl dX5_remove_13 (by decide +kernel) ?_
      refine sw_ret (v := some _) ⟨dX5_remove_14, _, rfl, rfl⟩ ?_
      rw [opRemove, onRw_y hk qk]
      exact pm_x tc_1 p7M p7A p7F (Nat.le_refl _)
  have hck := hI.1 k hk
  rcases idxN (σ.2.1 k) (by omega) p with qP | ⟨P, hP, rfl⟩
  · refine sw_aload_n (pc' := 1) rfl dX5_remove_0 rfl ?_
    refine sw_aload_n (pc' := 2) rfl dX5_remove_1 rfl ?_
    refine sw_iload_n (pc' := 3) rfl dX5_remove_2 rfl ?_
    refine sw_iload_n (pc' := 4) rfl dX5_remove_3 rfl ?_
    refine sw_V (M' := MX5_isNoPlace) (d' := d - 1) (bc' := 0) (bs' := 0) (ci := 6) (as := [_, _]) dX5_remove_4 w_1263 ok_X5_isNoPlace (q_isNoPlace hM (by omega)) hM.ob rfl (by omega) (Nat.le_of_ble_eq_true rfl) (Nat.zero_le _) (Nat.zero_le _) (fun E h' n' _ z => det_x z) (det_k ?_)
    rw [show npB σ (nI k) p = true from np_b (by omega) (by omega) qP]
    show SW _ _ _ _ _ _ _ (.int 1 :: _) _ _ _
    refine sw_V (M' := MX5_isStopped__) (d' := d - 1) (bc' := 0) (bs' := 0) (ci := 6) (as := [_]) dX5_remove_7 w_1235 ok_X5_isStopped__ (q_isStopped1 (a := true) hM hA (by omega)) hM.ob rfl (by omega) (Nat.le_of_ble_eq_true rfl) (Nat.zero_le _) (Nat.zero_le _) (fun E h' n' _ z => rp_x z) (rp_k (fun p7 p7ρ p7τ p7M p7A p7F => ?_))
    obtain ⟨Gp7, hGp7, eGp7⟩ := p7M.out
    show SW _ _ _ _ _ _ _ (.int 1 :: _) _ _ _
    refine sw_if_eq (pc' := 13) (tgt := 15) rfl dX5_remove_10 (by decide +kernel) (fun c10 => ?_) (fun c10 => ?_)
    · exact absurd c10 (by decide +kernel)
    · refine sw_iconst (pc' := 14) (v := 0) rfl dX5_remove_13 (by decide +kernel) ?_
      refine sw_ret (v := some _) ⟨dX5_remove_14, _, rfl, rfl⟩ ?_
      rw [opRemove, onRw_k hk qk, if_pos qP]
      exact pm_x tc_1 p7M p7A p7F (Nat.le_refl _)
  refine sw_aload_n (pc' := 1) rfl dX5_remove_0 rfl ?_
  refine sw_aload_n (pc' := 2) rfl dX5_remove_1 rfl ?_
  refine sw_iload_n (pc' := 3) rfl dX5_remove_2 rfl ?_
  refine sw_iload_n (pc' := 4) rfl dX5_remove_3 rfl ?_
  refine sw_V (M' := MX5_isNoPlace) (d' := d - 1) (bc' := 0) (bs' := 0) (ci := 6) (as := [_, _]) dX5_remove_4 w_1263 ok_X5_isNoPlace (q_isNoPlace hM (by omega)) hM.ob rfl (by omega) (Nat.le_of_ble_eq_true rfl) (Nat.zero_le _) (Nat.zero_le _) (fun E h' n' _ z => det_x z) (det_k ?_)
  rw [show npB σ (nI k) (nI P) = false from np_k (by omega) (nrB_k hk qk) (by omega) hP]
  show SW _ _ _ _ _ _ _ (.int 0 :: _) _ _ _
  refine sw_V (M' := MX5_isStopped__) (d' := d - 1) (bc' := 0) (bs' := 0) (ci := 6) (as := [_]) dX5_remove_7 w_1235 ok_X5_isStopped__ (q_isStopped1 (a := false) hM hA (by omega)) hM.ob rfl (by omega) (Nat.le_of_ble_eq_true rfl) (Nat.zero_le _) (Nat.zero_le _) (fun E h' n' _ z => rp_x z) (rp_k (fun p7 p7ρ p7τ p7M p7A p7F => ?_))
  obtain ⟨Gp7, hGp7, eGp7⟩ := p7M.out
  show SW _ _ _ _ _ _ _ (.int 0 :: _) _ _ _
  refine sw_if_eq (pc' := 13) (tgt := 15) rfl dX5_remove_10 (by decide +kernel) (fun c10 => ?_) (fun c10 => ?_)
  · refine sw_aload_n (pc' := 16) rfl dX5_remove_15 rfl ?_
    refine sw_getf (ci := 6) (k := 3) (pc' := 19) rfl dX5_remove_16 (by decide +kernel) w_1116 p7M.ob rfl ?_
    refine sw_iload_n (pc' := 20) rfl dX5_remove_19 rfl ?_
    refine sw_aald (j := k) (pc' := 21) rfl dX5_remove_20 hGp7 (by decide +kernel) (by decide +kernel) rfl (by omega) (by decide +kernel) (eGp7 k (by omega)) ?_
    refine sw_iload_n (pc' := 22) rfl dX5_remove_21 rfl ?_
    refine sw_iald (j := P) (pc' := 23) rfl dX5_remove_22 (p7M.row (k := k) (by omega)) rfl (by omega) (by decide +kernel) ?_
    rw [p7A.1 k (by omega) P (by omega)]
    refine sw_istore_n (pc' := 24) (lv' := [(3, _), (0, _), (1, _), (2, _)]) rfl dX5_remove_23 (by decide +kernel) rfl ?_
    refine sw_aload_n (pc' := 25) rfl dX5_remove_24 rfl ?_
    refine sw_iload_n (pc' := 26) rfl dX5_remove_25 rfl ?_
    refine sw_iload_n (pc' := 27) rfl dX5_remove_26 rfl ?_
    refine sw_V (M' := MX5_goAt) (d' := d - 1) (bc' := 0) (bs' := 0) (ci := 6) (as := [_, _]) dX5_remove_27 w_1227 ok_X5_goAt (q_goAt p7M p7A (k := k) (p := P) (by omega) (hI.1 k (by omega)) (by omega)) p7M.ob rfl (by omega) (Nat.le_of_ble_eq_true rfl) (Nat.zero_le _) (Nat.zero_le _) (fun E h' n' _ z => rp_x z) (rp_k (fun p27 p27ρ p27τ p27M p27A p27F => ?_))
    obtain ⟨Gp27, hGp27, eGp27⟩ := p27M.out
    refine sw_iload_n (pc' := 31) rfl dX5_remove_30 rfl ?_
    refine sw_ret (v := some _) ⟨dX5_remove_31, _, rfl, rfl⟩ ?_
    rw [opRemove, onRw_k hk qk, if_neg (nok (by omega) hP), nI_clamp (n := P) (by omega)]
    exact pm_k p27M p27A (p7F.tr p27F (Nat.le_refl _)) (Nat.le_refl _)
  · exact absurd c10 (by decide +kernel)
theorem q_insert {h : AH} {d bc bs n : Nat} {σ : CS} {th : Int32} {a p x : Int32} (hR : RMo h σ th) (hI : Iv σ) (hn : 159 ≤ n) (hd : 8 ≤ d) (h1 : 1 ≤ bc) (h2 : 12 ≤ bs)  : SM SR0 MX5_insert d bc bs [.ref 135, .int a, .int p, .int x] h n (PM h n (tc sI sA) (opInsert σ a p x)) := by
  obtain ⟨ρ, τ, hM, hA⟩ := hR
  obtain ⟨G0, hG0, eG0⟩ := hM.out
  refine sm_of pn_OverwalksModel rfl (Nat.le_of_ble_eq_true rfl) ?_
  rcases idxN 11 (by decide +kernel) a with qk1 | ⟨k, hk, rfl⟩
  · refine sw_aload_n (pc' := 1) rfl dX5_insert_0 rfl ?_
    refine sw_iload_n (pc' := 2) rfl dX5_insert_1 rfl ?_
    refine sw_S (M' := MX5_isNoRow) (d' := d - 1) (bc' := 0) (bs' := 0) (as := [_]) dX5_insert_2 w_1267 ok_X5_isNoRow (q_isNoRow (by omega)) (by omega) (Nat.le_of_ble_eq_true rfl) (Nat.zero_le _) (Nat.zero_le _) (fun E h' n' _ z => det_x z) (det_k ?_)
    rw [show nrB a = true from nrB_x qk1]
    show SW _ _ _ _ _ _ _ (.int 1 :: _) _ _ _
    refine sw_if_ne (pc' := 8) (tgt := 22) rfl dX5_insert_5 (by decide +kernel) (fun c5 => ?_) (fun c5 => ?_)
    · refine sw_iconst (pc' := 23) (v := 1) rfl dX5_insert_22 (by decide +kernel) ?_
      refine sw_goto (tgt := 27) dX5_insert_23 (by decide +kernel) ?_
      refine sw_iload_n (pc' := 28) rfl dX5_insert_27 rfl ?_
      refine sw_S (M' := MX5_isNoThing) (d' := d - 1) (bc' := 0) (bs' := 0) (as := [_]) dX5_insert_28 w_1171 ok_X5_isNoThing (q_isNoThing (by omega)) (by omega) (Nat.le_of_ble_eq_true rfl) (Nat.zero_le _) (Nat.zero_le _) (fun E h' n' _ z => det_x z) (det_k ?_)
      refine sw_iload_n (pc' := 32) rfl dX5_insert_31 rfl ?_
      refine sw_S (M' := MX5_isNoRow) (d' := d - 1) (bc' := 0) (bs' := 0) (as := [_]) dX5_insert_32 w_1267 ok_X5_isNoRow (q_isNoRow (by omega)) (by omega) (Nat.le_of_ble_eq_true rfl) (Nat.zero_le _) (Nat.zero_le _) (fun E h' n' _ z => det_x z) (det_k ?_)
      rw [show nrB a = true from nrB_x qk1]
      show SW _ _ _ _ _ _ _ (.int 1 :: _) _ _ _
      refine sw_if_ne (pc' := 38) (tgt := 53) rfl dX5_insert_35 (by decide +kernel) (fun c35 => ?_) (fun c35 => ?_)
      · refine sw_iconst (pc' := 54) (v := 0) rfl dX5_insert_53 (by decide +kernel) ?_
        refine sw_V (M' := MX5_isStopped) (d' := d - 1) (bc' := 0) (bs' := 0) (ci := 6) (as := [_, _, _]) dX5_insert_54 w_1174 ok_X5_isStopped (q_isStopped (a := true) (b := (!inB x 0 100)) (c := false) hM hA) hM.ob rfl (by omega) (Nat.le_of_ble_eq_true rfl) (Nat.zero_le _) (Nat.zero_le _) (fun E h' n' _ z => rp_x z) (rp_k (fun p54 p54ρ p54τ p54M p54A p54F => ?_))
        obtain ⟨Gp54, hGp54, eGp54⟩ := p54M.out
        show SW _ _ _ _ _ _ _ (.int 1 :: _) _ _ _
        refine sw_if_eq (pc' := 60) (tgt := 62) rfl dX5_insert_57 (by decide +kernel) (fun c57 => ?_) (fun c57 => ?_)
        · exact absurd c57 (by decide +kernel)
        · refine sw_iconst (pc' := 61) (v := 0) rfl dX5_insert_60 (by decide +kernel) ?_
          refine sw_ret (v := some _) ⟨dX5_insert_61, _, rfl, rfl⟩ ?_
          rw [opInsert, onRw_x qk1]
          exact pm_x tc_1 p54M p54A p54F (Nat.le_refl _)
      · exact absurd c35 (by decide +kernel)
    · exact absurd c5 (by decide +kernel)
  rcases Classical.em (kP (kdO k) = false) with qk | qk
  · refine sw_aload_n (pc' := 1) rfl dX5_insert_0 rfl ?_
    refine sw_iload_n (pc' := 2) rfl dX5_insert_1 rfl ?_
    refine sw_S (M' := MX5_isNoRow) (d' := d - 1) (bc' := 0) (bs' := 0) (as := [_]) dX5_insert_2 w_1267 ok_X5_isNoRow (q_isNoRow (by omega)) (by omega) (Nat.le_of_ble_eq_true rfl) (Nat.zero_le _) (Nat.zero_le _) (fun E h' n' _ z => det_x z) (det_k ?_)
    rw [show nrB (nI k) = true from nrB_y hk qk]
    show SW _ _ _ _ _ _ _ (.int 1 :: _) _ _ _
    refine sw_if_ne (pc' := 8) (tgt := 22) rfl dX5_insert_5 (by decide +kernel) (fun c5 => ?_) (fun c5 => ?_)
    · refine sw_iconst (pc' := 23) (v := 1) rfl dX5_insert_22 (by decide +kernel) ?_
      refine sw_goto (tgt := 27) dX5_insert_23 (by decide +kernel) ?_
      refine sw_iload_n (pc' := 28) rfl dX5_insert_27 rfl ?_
      refine sw_S (M' := MX5_isNoThing) (d' := d - 1) (bc' := 0) (bs' := 0) (as := [_]) dX5_insert_28 w_1171 ok_X5_isNoThing (q_isNoThing (by omega)) (by omega) (Nat.le_of_ble_eq_true rfl) (Nat.zero_le _) (Nat.zero_le _) (fun E h' n' _ z => det_x z) (det_k ?_)
      refine sw_iload_n (pc' := 32) rfl dX5_insert_31 rfl ?_
      refine sw_S (M' := MX5_isNoRow) (d' := d - 1) (bc' := 0) (bs' := 0) (as := [_]) dX5_insert_32 w_1267 ok_X5_isNoRow (q_isNoRow (by omega)) (by omega) (Nat.le_of_ble_eq_true rfl) (Nat.zero_le _) (Nat.zero_le _) (fun E h' n' _ z => det_x z) (det_k ?_)
      rw [show nrB (nI k) = true from nrB_y hk qk]
      show SW _ _ _ _ _ _ _ (.int 1 :: _) _ _ _
      refine sw_if_ne (pc' := 38) (tgt := 53) rfl dX5_insert_35 (by decide +kernel) (fun c35 => ?_) (fun c35 => ?_)
      · refine sw_iconst (pc' := 54) (v := 0) rfl dX5_insert_53 (by decide +kernel) ?_
        refine sw_V (M' := MX5_isStopped) (d' := d - 1) (bc' := 0) (bs' := 0) (ci := 6) (as := [_, _, _]) dX5_insert_54 w_1174 ok_X5_isStopped (q_isStopped (a := true) (b := (!inB x 0 100)) (c := false) hM hA) hM.ob rfl (by omega) (Nat.le_of_ble_eq_true rfl) (Nat.zero_le _) (Nat.zero_le _) (fun E h' n' _ z => rp_x z) (rp_k (fun p54 p54ρ p54τ p54M p54A p54F => ?_))
        obtain ⟨Gp54, hGp54, eGp54⟩ := p54M.out
        show SW _ _ _ _ _ _ _ (.int 1 :: _) _ _ _
        refine sw_if_eq (pc' := 60) (tgt := 62) rfl dX5_insert_57 (by decide +kernel) (fun c57 => ?_) (fun c57 => ?_)
        · exact absurd c57 (by decide +kernel)
        · refine sw_iconst (pc' := 61) (v := 0) rfl dX5_insert_60 (by decide +kernel) ?_
          refine sw_ret (v := some _) ⟨dX5_insert_61, _, rfl, rfl⟩ ?_
          rw [opInsert, onRw_y hk qk]
          exact pm_x tc_1 p54M p54A p54F (Nat.le_refl _)
      · exact absurd c35 (by decide +kernel)
    · exact absurd c5 (by decide +kernel)
  have hck := hI.1 k hk
  rcases idxN (σ.2.1 k + 1) (by omega) p with qP | ⟨P, hP, rfl⟩
  · refine sw_aload_n (pc' := 1) rfl dX5_insert_0 rfl ?_
    refine sw_iload_n (pc' := 2) rfl dX5_insert_1 rfl ?_
    refine sw_S (M' := MX5_isNoRow) (d' := d - 1) (bc' := 0) (bs' := 0) (as := [_]) dX5_insert_2 w_1267 ok_X5_isNoRow (q_isNoRow (by omega)) (by omega) (Nat.le_of_ble_eq_true rfl) (Nat.zero_le _) (Nat.zero_le _) (fun E h' n' _ z => det_x z) (det_k ?_)
    rw [show nrB (nI k) = false from nrB_k hk qk]
    show SW _ _ _ _ _ _ _ (.int 0 :: _) _ _ _
    refine sw_if_ne (pc' := 8) (tgt := 22) rfl dX5_insert_5 (by decide +kernel) (fun c5 => ?_) (fun c5 => ?_)
    · exact absurd c5 (by decide +kernel)
    · refine sw_iload_n (pc' := 9) rfl dX5_insert_8 rfl ?_
      refine sw_iconst (pc' := 10) (v := 0) rfl dX5_insert_9 (by decide +kernel) ?_
      refine sw_aload_n (pc' := 11) rfl dX5_insert_10 rfl ?_
      refine sw_getf (ci := 6) (k := 4) (pc' := 14) rfl dX5_insert_11 (by decide +kernel) w_1117 hM.ob rfl ?_
      refine sw_iload_n (pc' := 15) rfl dX5_insert_14 rfl ?_
      refine sw_iald (j := k) (pc' := 16) rfl dX5_insert_15 hM.sz rfl (by omega) (by decide +kernel) ?_
      refine sw_S (M' := MX5_isIn) (d' := d - 1) (bc' := 0) (bs' := 0) (as := [_, _, _]) dX5_insert_16 w_1168 ok_X5_isIn (q_isIn) (by omega) (Nat.le_of_ble_eq_true rfl) (Nat.zero_le _) (Nat.zero_le _) (fun E h' n' _ z => det_x z) (det_k ?_)
      rw [show inB p 0 (nI (σ.2.1 k)) = false from no_x (N := σ.2.1 k) (by omega) qP]
      show SW _ _ _ _ _ _ _ (.int 0 :: _) _ _ _
      refine sw_if_ne (pc' := 22) (tgt := 26) rfl dX5_insert_19 (by decide +kernel) (fun c19 => ?_) (fun c19 => ?_)
      · exact absurd c19 (by decide +kernel)
      · refine sw_iconst (pc' := 23) (v := 1) rfl dX5_insert_22 (by decide +kernel) ?_
        refine sw_goto (tgt := 27) dX5_insert_23 (by decide +kernel) ?_
        refine sw_iload_n (pc' := 28) rfl dX5_insert_27 rfl ?_
        refine sw_S (M' := MX5_isNoThing) (d' := d - 1) (bc' := 0) (bs' := 0) (as := [_]) dX5_insert_28 w_1171 ok_X5_isNoThing (q_isNoThing (by omega)) (by omega) (Nat.le_of_ble_eq_true rfl) (Nat.zero_le _) (Nat.zero_le _) (fun E h' n' _ z => det_x z) (det_k ?_)
        refine sw_iload_n (pc' := 32) rfl dX5_insert_31 rfl ?_
        refine sw_S (M' := MX5_isNoRow) (d' := d - 1) (bc' := 0) (bs' := 0) (as := [_]) dX5_insert_32 w_1267 ok_X5_isNoRow (q_isNoRow (by omega)) (by omega) (Nat.le_of_ble_eq_true rfl) (Nat.zero_le _) (Nat.zero_le _) (fun E h' n' _ z => det_x z) (det_k ?_)
        rw [show nrB (nI k) = false from nrB_k hk qk]
        show SW _ _ _ _ _ _ _ (.int 0 :: _) _ _ _
        refine sw_if_ne (pc' := 38) (tgt := 53) rfl dX5_insert_35 (by decide +kernel) (fun c35 => ?_) (fun c35 => ?_)
        · exact absurd c35 (by decide +kernel)
        · refine sw_aload_n (pc' := 39) rfl dX5_insert_38 rfl ?_
          refine sw_getf (ci := 6) (k := 4) (pc' := 42) rfl dX5_insert_39 (by decide +kernel) w_1117 hM.ob rfl ?_
          refine sw_iload_n (pc' := 43) rfl dX5_insert_42 rfl ?_
          refine sw_iald (j := k) (pc' := 44) rfl dX5_insert_43 hM.sz rfl (by omega) (by decide +kernel) ?_
          refine sw_bipush (pc' := 46) (v := 12) rfl dX5_insert_44 (by decide +kernel) ?_
          refine sw_icmp_ne (pc' := 49) (tgt := 53) rfl dX5_insert_46 (by decide +kernel) (fun c46 => ?_) (fun c46 => ?_)
          · refine sw_iconst (pc' := 54) (v := 0) rfl dX5_insert_53 (by decide +kernel) ?_
            refine sw_V (M' := MX5_isStopped) (d' := d - 1) (bc' := 0) (bs' := 0) (ci := 6) (as := [_, _, _]) dX5_insert_54 w_1174 ok_X5_isStopped (q_isStopped (a := true) (b := (!inB x 0 100)) (c := false) hM hA) hM.ob rfl (by omega) (Nat.le_of_ble_eq_true rfl) (Nat.zero_le _) (Nat.zero_le _) (fun E h' n' _ z => rp_x z) (rp_k (fun p54 p54ρ p54τ p54M p54A p54F => ?_))
            obtain ⟨Gp54, hGp54, eGp54⟩ := p54M.out
            show SW _ _ _ _ _ _ _ (.int 1 :: _) _ _ _
            refine sw_if_eq (pc' := 60) (tgt := 62) rfl dX5_insert_57 (by decide +kernel) (fun c57 => ?_) (fun c57 => ?_)
            · exact absurd c57 (by decide +kernel)
            · refine sw_iconst (pc' := 61) (v := 0) rfl dX5_insert_60 (by decide +kernel) ?_
              refine sw_ret (v := some _) ⟨dX5_insert_61, _, rfl, rfl⟩ ?_
              rw [opInsert, onRw_k hk qk, if_pos (by rw [nI_1]; exact qP)]
              exact pm_x tc_1 p54M p54A p54F (Nat.le_refl _)
          · refine sw_iconst (pc' := 50) (v := 1) rfl dX5_insert_49 (by decide +kernel) ?_
            refine sw_goto (tgt := 54) dX5_insert_50 (by decide +kernel) ?_
            refine sw_V (M' := MX5_isStopped) (d' := d - 1) (bc' := 0) (bs' := 0) (ci := 6) (as := [_, _, _]) dX5_insert_54 w_1174 ok_X5_isStopped (q_isStopped (a := true) (b := (!inB x 0 100)) (c := true) hM hA) hM.ob rfl (by omega) (Nat.le_of_ble_eq_true rfl) (Nat.zero_le _) (Nat.zero_le _) (fun E h' n' _ z => rp_x z) (rp_k (fun p54 p54ρ p54τ p54M p54A p54F => ?_))
            obtain ⟨Gp54, hGp54, eGp54⟩ := p54M.out
            show SW _ _ _ _ _ _ _ (.int 1 :: _) _ _ _
            refine sw_if_eq (pc' := 60) (tgt := 62) rfl dX5_insert_57 (by decide +kernel) (fun c57 => ?_) (fun c57 => ?_)
            · exact absurd c57 (by decide +kernel)
            · refine sw_iconst (pc' := 61) (v := 0) rfl dX5_insert_60 (by decide +kernel) ?_
              refine sw_ret (v := some _) ⟨dX5_insert_61, _, rfl, rfl⟩ ?_
              rw [opInsert, onRw_k hk qk, if_pos (by rw [nI_1]; exact qP)]
              exact pm_x tc_1 p54M p54A p54F (Nat.le_refl _)
  rcases Classical.em (x < 0 ∨ 100 < x) with qx | qx
  · refine sw_aload_n (pc' := 1) rfl dX5_insert_0 rfl ?_
    refine sw_iload_n (pc' := 2) rfl dX5_insert_1 rfl ?_
    refine sw_S (M' := MX5_isNoRow) (d' := d - 1) (bc' := 0) (bs' := 0) (as := [_]) dX5_insert_2 w_1267 ok_X5_isNoRow (q_isNoRow (by omega)) (by omega) (Nat.le_of_ble_eq_true rfl) (Nat.zero_le _) (Nat.zero_le _) (fun E h' n' _ z => det_x z) (det_k ?_)
    rw [show nrB (nI k) = false from nrB_k hk qk]
    show SW _ _ _ _ _ _ _ (.int 0 :: _) _ _ _
    refine sw_if_ne (pc' := 8) (tgt := 22) rfl dX5_insert_5 (by decide +kernel) (fun c5 => ?_) (fun c5 => ?_)
    · exact absurd c5 (by decide +kernel)
    · refine sw_iload_n (pc' := 9) rfl dX5_insert_8 rfl ?_
      refine sw_iconst (pc' := 10) (v := 0) rfl dX5_insert_9 (by decide +kernel) ?_
      refine sw_aload_n (pc' := 11) rfl dX5_insert_10 rfl ?_
      refine sw_getf (ci := 6) (k := 4) (pc' := 14) rfl dX5_insert_11 (by decide +kernel) w_1117 hM.ob rfl ?_
      refine sw_iload_n (pc' := 15) rfl dX5_insert_14 rfl ?_
      refine sw_iald (j := k) (pc' := 16) rfl dX5_insert_15 hM.sz rfl (by omega) (by decide +kernel) ?_
      refine sw_S (M' := MX5_isIn) (d' := d - 1) (bc' := 0) (bs' := 0) (as := [_, _, _]) dX5_insert_16 w_1168 ok_X5_isIn (q_isIn) (by omega) (Nat.le_of_ble_eq_true rfl) (Nat.zero_le _) (Nat.zero_le _) (fun E h' n' _ z => det_x z) (det_k ?_)
      rw [show inB (nI P) 0 (nI (σ.2.1 k)) = true from inB_k (N := σ.2.1 k) (by omega) (by omega)]
      show SW _ _ _ _ _ _ _ (.int 1 :: _) _ _ _
      refine sw_if_ne (pc' := 22) (tgt := 26) rfl dX5_insert_19 (by decide +kernel) (fun c19 => ?_) (fun c19 => ?_)
      · refine sw_iconst (pc' := 27) (v := 0) rfl dX5_insert_26 (by decide +kernel) ?_
        refine sw_iload_n (pc' := 28) rfl dX5_insert_27 rfl ?_
        refine sw_S (M' := MX5_isNoThing) (d' := d - 1) (bc' := 0) (bs' := 0) (as := [_]) dX5_insert_28 w_1171 ok_X5_isNoThing (q_isNoThing (by omega)) (by omega) (Nat.le_of_ble_eq_true rfl) (Nat.zero_le _) (Nat.zero_le _) (fun E h' n' _ z => det_x z) (det_k ?_)
        rw [show inB x 0 100 = false from inB_x qx]
        show SW _ _ _ _ _ _ _ (.int 1 :: _) _ _ _
        refine sw_iload_n (pc' := 32) rfl dX5_insert_31 rfl ?_
        refine sw_S (M' := MX5_isNoRow) (d' := d - 1) (bc' := 0) (bs' := 0) (as := [_]) dX5_insert_32 w_1267 ok_X5_isNoRow (q_isNoRow (by omega)) (by omega) (Nat.le_of_ble_eq_true rfl) (Nat.zero_le _) (Nat.zero_le _) (fun E h' n' _ z => det_x z) (det_k ?_)
        rw [show nrB (nI k) = false from nrB_k hk qk]
        show SW _ _ _ _ _ _ _ (.int 0 :: _) _ _ _
        refine sw_if_ne (pc' := 38) (tgt := 53) rfl dX5_insert_35 (by decide +kernel) (fun c35 => ?_) (fun c35 => ?_)
        · exact absurd c35 (by decide +kernel)
        · refine sw_aload_n (pc' := 39) rfl dX5_insert_38 rfl ?_
          refine sw_getf (ci := 6) (k := 4) (pc' := 42) rfl dX5_insert_39 (by decide +kernel) w_1117 hM.ob rfl ?_
          refine sw_iload_n (pc' := 43) rfl dX5_insert_42 rfl ?_
          refine sw_iald (j := k) (pc' := 44) rfl dX5_insert_43 hM.sz rfl (by omega) (by decide +kernel) ?_
          refine sw_bipush (pc' := 46) (v := 12) rfl dX5_insert_44 (by decide +kernel) ?_
          refine sw_icmp_ne (pc' := 49) (tgt := 53) rfl dX5_insert_46 (by decide +kernel) (fun c46 => ?_) (fun c46 => ?_)
          · refine sw_iconst (pc' := 54) (v := 0) rfl dX5_insert_53 (by decide +kernel) ?_
            refine sw_V (M' := MX5_isStopped) (d' := d - 1) (bc' := 0) (bs' := 0) (ci := 6) (as := [_, _, _]) dX5_insert_54 w_1174 ok_X5_isStopped (q_isStopped (a := false) (b := true) (c := false) hM hA) hM.ob rfl (by omega) (Nat.le_of_ble_eq_true rfl) (Nat.zero_le _) (Nat.zero_le _) (fun E h' n' _ z => rp_x z) (rp_k (fun p54 p54ρ p54τ p54M p54A p54F => ?_))
            obtain ⟨Gp54, hGp54, eGp54⟩ := p54M.out
            show SW _ _ _ _ _ _ _ (.int 1 :: _) _ _ _
            refine sw_if_eq (pc' := 60) (tgt := 62) rfl dX5_insert_57 (by decide +kernel) (fun c57 => ?_) (fun c57 => ?_)
            · exact absurd c57 (by decide +kernel)
            · refine sw_iconst (pc' := 61) (v := 0) rfl dX5_insert_60 (by decide +kernel) ?_
              refine sw_ret (v := some _) ⟨dX5_insert_61, _, rfl, rfl⟩ ?_
              rw [opInsert, onRw_k hk qk, if_neg (by rw [nI_1]; exact nok (by omega) hP), nI_clamp (n := P) (by omega), if_pos qx]
              exact pm_x (tc_2 sAI) p54M p54A p54F (Nat.le_refl _)
          · refine sw_iconst (pc' := 50) (v := 1) rfl dX5_insert_49 (by decide +kernel) ?_
            refine sw_goto (tgt := 54) dX5_insert_50 (by decide +kernel) ?_
            refine sw_V (M' := MX5_isStopped) (d' := d - 1) (bc' := 0) (bs' := 0) (ci := 6) (as := [_, _, _]) dX5_insert_54 w_1174 ok_X5_isStopped (q_isStopped (a := false) (b := true) (c := true) hM hA) hM.ob rfl (by omega) (Nat.le_of_ble_eq_true rfl) (Nat.zero_le _) (Nat.zero_le _) (fun E h' n' _ z => rp_x z) (rp_k (fun p54 p54ρ p54τ p54M p54A p54F => ?_))
            obtain ⟨Gp54, hGp54, eGp54⟩ := p54M.out
            show SW _ _ _ _ _ _ _ (.int 1 :: _) _ _ _
            refine sw_if_eq (pc' := 60) (tgt := 62) rfl dX5_insert_57 (by decide +kernel) (fun c57 => ?_) (fun c57 => ?_)
            · exact absurd c57 (by decide +kernel)
            · refine sw_iconst (pc' := 61) (v := 0) rfl dX5_insert_60 (by decide +kernel) ?_
              refine sw_ret (v := some _) ⟨dX5_insert_61, _, rfl, rfl⟩ ?_
              rw [opInsert, onRw_k hk qk, if_neg (by rw [nI_1]; exact nok (by omega) hP), nI_clamp (n := P) (by omega), if_pos qx]
              exact pm_x (tc_2 sAI) p54M p54A p54F (Nat.le_refl _)
      · exact absurd c19 (by decide +kernel)
  rcases Classical.em (12 < nI (σ.2.1 k) + 1) with qr | qr
  · refine sw_aload_n (pc' := 1) rfl dX5_insert_0 rfl ?_
    refine sw_iload_n (pc' := 2) rfl dX5_insert_1 rfl ?_
    refine sw_S (M' := MX5_isNoRow) (d' := d - 1) (bc' := 0) (bs' := 0) (as := [_]) dX5_insert_2 w_1267 ok_X5_isNoRow (q_isNoRow (by omega)) (by omega) (Nat.le_of_ble_eq_true rfl) (Nat.zero_le _) (Nat.zero_le _) (fun E h' n' _ z => det_x z) (det_k ?_)
    rw [show nrB (nI k) = false from nrB_k hk qk]
    show SW _ _ _ _ _ _ _ (.int 0 :: _) _ _ _
    refine sw_if_ne (pc' := 8) (tgt := 22) rfl dX5_insert_5 (by decide +kernel) (fun c5 => ?_) (fun c5 => ?_)
    · exact absurd c5 (by decide +kernel)
    · refine sw_iload_n (pc' := 9) rfl dX5_insert_8 rfl ?_
      refine sw_iconst (pc' := 10) (v := 0) rfl dX5_insert_9 (by decide +kernel) ?_
      refine sw_aload_n (pc' := 11) rfl dX5_insert_10 rfl ?_
      refine sw_getf (ci := 6) (k := 4) (pc' := 14) rfl dX5_insert_11 (by decide +kernel) w_1117 hM.ob rfl ?_
      refine sw_iload_n (pc' := 15) rfl dX5_insert_14 rfl ?_
      refine sw_iald (j := k) (pc' := 16) rfl dX5_insert_15 hM.sz rfl (by omega) (by decide +kernel) ?_
      refine sw_S (M' := MX5_isIn) (d' := d - 1) (bc' := 0) (bs' := 0) (as := [_, _, _]) dX5_insert_16 w_1168 ok_X5_isIn (q_isIn) (by omega) (Nat.le_of_ble_eq_true rfl) (Nat.zero_le _) (Nat.zero_le _) (fun E h' n' _ z => det_x z) (det_k ?_)
      rw [show inB (nI P) 0 (nI (σ.2.1 k)) = true from inB_k (N := σ.2.1 k) (by omega) (by omega)]
      show SW _ _ _ _ _ _ _ (.int 1 :: _) _ _ _
      refine sw_if_ne (pc' := 22) (tgt := 26) rfl dX5_insert_19 (by decide +kernel) (fun c19 => ?_) (fun c19 => ?_)
      · refine sw_iconst (pc' := 27) (v := 0) rfl dX5_insert_26 (by decide +kernel) ?_
        refine sw_iload_n (pc' := 28) rfl dX5_insert_27 rfl ?_
        refine sw_S (M' := MX5_isNoThing) (d' := d - 1) (bc' := 0) (bs' := 0) (as := [_]) dX5_insert_28 w_1171 ok_X5_isNoThing (q_isNoThing (by omega)) (by omega) (Nat.le_of_ble_eq_true rfl) (Nat.zero_le _) (Nat.zero_le _) (fun E h' n' _ z => det_x z) (det_k ?_)
        rw [show inB x 0 100 = true from inB_n qx]
        show SW _ _ _ _ _ _ _ (.int 0 :: _) _ _ _
        refine sw_iload_n (pc' := 32) rfl dX5_insert_31 rfl ?_
        refine sw_S (M' := MX5_isNoRow) (d' := d - 1) (bc' := 0) (bs' := 0) (as := [_]) dX5_insert_32 w_1267 ok_X5_isNoRow (q_isNoRow (by omega)) (by omega) (Nat.le_of_ble_eq_true rfl) (Nat.zero_le _) (Nat.zero_le _) (fun E h' n' _ z => det_x z) (det_k ?_)
        rw [show nrB (nI k) = false from nrB_k hk qk]
        show SW _ _ _ _ _ _ _ (.int 0 :: _) _ _ _
        refine sw_if_ne (pc' := 38) (tgt := 53) rfl dX5_insert_35 (by decide +kernel) (fun c35 => ?_) (fun c35 => ?_)
        · exact absurd c35 (by decide +kernel)
        · refine sw_aload_n (pc' := 39) rfl dX5_insert_38 rfl ?_
          refine sw_getf (ci := 6) (k := 4) (pc' := 42) rfl dX5_insert_39 (by decide +kernel) w_1117 hM.ob rfl ?_
          refine sw_iload_n (pc' := 43) rfl dX5_insert_42 rfl ?_
          refine sw_iald (j := k) (pc' := 44) rfl dX5_insert_43 hM.sz rfl (by omega) (by decide +kernel) ?_
          refine sw_bipush (pc' := 46) (v := 12) rfl dX5_insert_44 (by decide +kernel) ?_
          refine sw_icmp_ne (pc' := 49) (tgt := 53) rfl dX5_insert_46 (by decide +kernel) (fun c46 => ?_) (fun c46 => ?_)
          · exact absurd ((nI12 (hI.1 k hk)).mpr (full (hI.1 k hk) qr)) c46
          · refine sw_iconst (pc' := 50) (v := 1) rfl dX5_insert_49 (by decide +kernel) ?_
            refine sw_goto (tgt := 54) dX5_insert_50 (by decide +kernel) ?_
            refine sw_V (M' := MX5_isStopped) (d' := d - 1) (bc' := 0) (bs' := 0) (ci := 6) (as := [_, _, _]) dX5_insert_54 w_1174 ok_X5_isStopped (q_isStopped (a := false) (b := false) (c := true) hM hA) hM.ob rfl (by omega) (Nat.le_of_ble_eq_true rfl) (Nat.zero_le _) (Nat.zero_le _) (fun E h' n' _ z => rp_x z) (rp_k (fun p54 p54ρ p54τ p54M p54A p54F => ?_))
            obtain ⟨Gp54, hGp54, eGp54⟩ := p54M.out
            show SW _ _ _ _ _ _ _ (.int 1 :: _) _ _ _
            refine sw_if_eq (pc' := 60) (tgt := 62) rfl dX5_insert_57 (by decide +kernel) (fun c57 => ?_) (fun c57 => ?_)
            · exact absurd c57 (by decide +kernel)
            · refine sw_iconst (pc' := 61) (v := 0) rfl dX5_insert_60 (by decide +kernel) ?_
              refine sw_ret (v := some _) ⟨dX5_insert_61, _, rfl, rfl⟩ ?_
              rw [opInsert, onRw_k hk qk, if_neg (by rw [nI_1]; exact nok (by omega) hP), nI_clamp (n := P) (by omega), if_neg qx, if_pos qr]
              exact pm_x (tc_3 sSI sSA) p54M p54A p54F (Nat.le_refl _)
      · exact absurd c19 (by decide +kernel)
  have hroom : σ.2.1 k < 12 := full_n (hI.1 k hk) qr
  refine sw_aload_n (pc' := 1) rfl dX5_insert_0 rfl ?_
  refine sw_iload_n (pc' := 2) rfl dX5_insert_1 rfl ?_
  refine sw_S (M' := MX5_isNoRow) (d' := d - 1) (bc' := 0) (bs' := 0) (as := [_]) dX5_insert_2 w_1267 ok_X5_isNoRow (q_isNoRow (by omega)) (by omega) (Nat.le_of_ble_eq_true rfl) (Nat.zero_le _) (Nat.zero_le _) (fun E h' n' _ z => det_x z) (det_k ?_)
  rw [show nrB (nI k) = false from nrB_k hk qk]
  show SW _ _ _ _ _ _ _ (.int 0 :: _) _ _ _
  refine sw_if_ne (pc' := 8) (tgt := 22) rfl dX5_insert_5 (by decide +kernel) (fun c5 => ?_) (fun c5 => ?_)
  · exact absurd c5 (by decide +kernel)
  · refine sw_iload_n (pc' := 9) rfl dX5_insert_8 rfl ?_
    refine sw_iconst (pc' := 10) (v := 0) rfl dX5_insert_9 (by decide +kernel) ?_
    refine sw_aload_n (pc' := 11) rfl dX5_insert_10 rfl ?_
    refine sw_getf (ci := 6) (k := 4) (pc' := 14) rfl dX5_insert_11 (by decide +kernel) w_1117 hM.ob rfl ?_
    refine sw_iload_n (pc' := 15) rfl dX5_insert_14 rfl ?_
    refine sw_iald (j := k) (pc' := 16) rfl dX5_insert_15 hM.sz rfl (by omega) (by decide +kernel) ?_
    refine sw_S (M' := MX5_isIn) (d' := d - 1) (bc' := 0) (bs' := 0) (as := [_, _, _]) dX5_insert_16 w_1168 ok_X5_isIn (q_isIn) (by omega) (Nat.le_of_ble_eq_true rfl) (Nat.zero_le _) (Nat.zero_le _) (fun E h' n' _ z => det_x z) (det_k ?_)
    rw [show inB (nI P) 0 (nI (σ.2.1 k)) = true from inB_k (N := σ.2.1 k) (by omega) (by omega)]
    show SW _ _ _ _ _ _ _ (.int 1 :: _) _ _ _
    refine sw_if_ne (pc' := 22) (tgt := 26) rfl dX5_insert_19 (by decide +kernel) (fun c19 => ?_) (fun c19 => ?_)
    · refine sw_iconst (pc' := 27) (v := 0) rfl dX5_insert_26 (by decide +kernel) ?_
      refine sw_iload_n (pc' := 28) rfl dX5_insert_27 rfl ?_
      refine sw_S (M' := MX5_isNoThing) (d' := d - 1) (bc' := 0) (bs' := 0) (as := [_]) dX5_insert_28 w_1171 ok_X5_isNoThing (q_isNoThing (by omega)) (by omega) (Nat.le_of_ble_eq_true rfl) (Nat.zero_le _) (Nat.zero_le _) (fun E h' n' _ z => det_x z) (det_k ?_)
      rw [show inB x 0 100 = true from inB_n qx]
      show SW _ _ _ _ _ _ _ (.int 0 :: _) _ _ _
      refine sw_iload_n (pc' := 32) rfl dX5_insert_31 rfl ?_
      refine sw_S (M' := MX5_isNoRow) (d' := d - 1) (bc' := 0) (bs' := 0) (as := [_]) dX5_insert_32 w_1267 ok_X5_isNoRow (q_isNoRow (by omega)) (by omega) (Nat.le_of_ble_eq_true rfl) (Nat.zero_le _) (Nat.zero_le _) (fun E h' n' _ z => det_x z) (det_k ?_)
      rw [show nrB (nI k) = false from nrB_k hk qk]
      show SW _ _ _ _ _ _ _ (.int 0 :: _) _ _ _
      refine sw_if_ne (pc' := 38) (tgt := 53) rfl dX5_insert_35 (by decide +kernel) (fun c35 => ?_) (fun c35 => ?_)
      · exact absurd c35 (by decide +kernel)
      · refine sw_aload_n (pc' := 39) rfl dX5_insert_38 rfl ?_
        refine sw_getf (ci := 6) (k := 4) (pc' := 42) rfl dX5_insert_39 (by decide +kernel) w_1117 hM.ob rfl ?_
        refine sw_iload_n (pc' := 43) rfl dX5_insert_42 rfl ?_
        refine sw_iald (j := k) (pc' := 44) rfl dX5_insert_43 hM.sz rfl (by omega) (by decide +kernel) ?_
        refine sw_bipush (pc' := 46) (v := 12) rfl dX5_insert_44 (by decide +kernel) ?_
        refine sw_icmp_ne (pc' := 49) (tgt := 53) rfl dX5_insert_46 (by decide +kernel) (fun c46 => ?_) (fun c46 => ?_)
        · refine sw_iconst (pc' := 54) (v := 0) rfl dX5_insert_53 (by decide +kernel) ?_
          refine sw_V (M' := MX5_isStopped) (d' := d - 1) (bc' := 0) (bs' := 0) (ci := 6) (as := [_, _, _]) dX5_insert_54 w_1174 ok_X5_isStopped (q_isStopped (a := false) (b := false) (c := false) hM hA) hM.ob rfl (by omega) (Nat.le_of_ble_eq_true rfl) (Nat.zero_le _) (Nat.zero_le _) (fun E h' n' _ z => rp_x z) (rp_k (fun p54 p54ρ p54τ p54M p54A p54F => ?_))
          obtain ⟨Gp54, hGp54, eGp54⟩ := p54M.out
          show SW _ _ _ _ _ _ _ (.int 0 :: _) _ _ _
          refine sw_if_eq (pc' := 60) (tgt := 62) rfl dX5_insert_57 (by decide +kernel) (fun c57 => ?_) (fun c57 => ?_)
          · refine sw_aload_n (pc' := 63) rfl dX5_insert_62 rfl ?_
            refine sw_iload_n (pc' := 64) rfl dX5_insert_63 rfl ?_
            refine sw_iload_n (pc' := 65) rfl dX5_insert_64 rfl ?_
            refine sw_iload_n (pc' := 66) rfl dX5_insert_65 rfl ?_
            refine sw_V (M' := MX5_comeAt) (d' := d - 1) (bc' := 0) (bs' := 0) (ci := 6) (as := [_, _, _]) dX5_insert_66 w_1199 ok_X5_comeAt (q_comeAt p54M p54A (k := k) (p := P) (by omega) (by omega) (by omega)) p54M.ob rfl (by omega) (Nat.le_of_ble_eq_true rfl) (Nat.zero_le _) (Nat.zero_le _) (fun E h' n' _ z => rp_x z) (rp_k (fun p66 p66ρ p66τ p66M p66A p66F => ?_))
            obtain ⟨Gp66, hGp66, eGp66⟩ := p66M.out
            refine sw_aload_n (pc' := 70) rfl dX5_insert_69 rfl ?_
            refine sw_getf (ci := 6) (k := 4) (pc' := 73) rfl dX5_insert_70 (by decide +kernel) w_1117 p66M.ob rfl ?_
            refine sw_iload_n (pc' := 74) rfl dX5_insert_73 rfl ?_
            refine sw_iald (j := k) (pc' := 75) rfl dX5_insert_74 p66M.sz rfl (by omega) (by decide +kernel) ?_
            rw [show (la2 σ k P x).2.1 k = σ.2.1 k + 1 from up_s]
            refine sw_ret (v := some _) ⟨dX5_insert_75, _, rfl, rfl⟩ ?_
            rw [opInsert, onRw_k hk qk, if_neg (by rw [nI_1]; exact nok (by omega) hP), nI_clamp (n := P) (by omega), if_neg qx, if_neg qr]
            exact pm_k p66M p66A (p54F.tr p66F (Nat.le_refl _)) (Nat.le_refl _)
          · exact absurd c57 (by decide +kernel)
        · exact absurd ((nI12 (hI.1 k hk)).mp c46) (by have := full_n (hI.1 k hk) qr; omega)
    · exact absurd c19 (by decide +kernel)
theorem q_swap {h : AH} {d bc bs n : Nat} {σ : CS} {th : Int32} {a p o : Int32} (hR : RMo h σ th) (hI : Iv σ) (hn : 159 ≤ n) (hd : 8 ≤ d) (h1 : 1 ≤ bc) (h2 : 12 ≤ bs)  : SM SR0 MX5_swap d bc bs [.ref 135, .int a, .int p, .int o] h n (PM h n (tc sI sI) (opSwap σ a p o)) := by
  obtain ⟨ρ, τ, hM, hA⟩ := hR
  obtain ⟨G0, hG0, eG0⟩ := hM.out
  refine sm_of pn_OverwalksModel rfl (Nat.le_of_ble_eq_true rfl) ?_
  rcases idxN 11 (by decide +kernel) a with qk1 | ⟨k, hk, rfl⟩
  · refine sw_aload_n (pc' := 1) rfl dX5_swap_0 rfl ?_
    refine sw_aload_n (pc' := 2) rfl dX5_swap_1 rfl ?_
    refine sw_iload_n (pc' := 3) rfl dX5_swap_2 rfl ?_
    refine sw_iload_n (pc' := 4) rfl dX5_swap_3 rfl ?_
    refine sw_V (M' := MX5_isNoPlace) (d' := d - 1) (bc' := 0) (bs' := 0) (ci := 6) (as := [_, _]) dX5_swap_4 w_1263 ok_X5_isNoPlace (q_isNoPlace hM (by omega)) hM.ob rfl (by omega) (Nat.le_of_ble_eq_true rfl) (Nat.zero_le _) (Nat.zero_le _) (fun E h' n' _ z => det_x z) (det_k ?_)
    rw [show npB σ a p = true from np_r (nrB_x qk1)]
    show SW _ _ _ _ _ _ _ (.int 1 :: _) _ _ _
    refine sw_if_ne (pc' := 10) (tgt := 19) rfl dX5_swap_7 (by decide +kernel) (fun c7 => ?_) (fun c7 => ?_)
    · refine sw_iconst (pc' := 20) (v := 1) rfl dX5_swap_19 (by decide +kernel) ?_
      refine sw_goto (tgt := 24) dX5_swap_20 (by decide +kernel) ?_
      refine sw_V (M' := MX5_isStopped__) (d' := d - 1) (bc' := 0) (bs' := 0) (ci := 6) (as := [_]) dX5_swap_24 w_1235 ok_X5_isStopped__ (q_isStopped1 (a := true) hM hA (by omega)) hM.ob rfl (by omega) (Nat.le_of_ble_eq_true rfl) (Nat.zero_le _) (Nat.zero_le _) (fun E h' n' _ z => rp_x z) (rp_k (fun p24 p24ρ p24τ p24M p24A p24F => ?_))
      obtain ⟨Gp24, hGp24, eGp24⟩ := p24M.out
      show SW _ _ _ _ _ _ _ (.int 1 :: _) _ _ _
      refine sw_if_eq (pc' := 30) (tgt := 32) rfl dX5_swap_27 (by decide +kernel) (fun c27 => ?_) (fun c27 => ?_)
      · exact absurd c27 (by decide +kernel)
      · refine sw_iconst (pc' := 31) (v := 0) rfl dX5_swap_30 (by decide +kernel) ?_
        refine sw_ret (v := some _) ⟨dX5_swap_31, _, rfl, rfl⟩ ?_
        rw [opSwap, onRw_x qk1]
        exact pm_x tc_1 p24M p24A p24F (Nat.le_refl _)
    · exact absurd c7 (by decide +kernel)
  rcases Classical.em (kP (kdO k) = false) with qk | qk
  · refine sw_aload_n (pc' := 1) rfl dX5_swap_0 rfl ?_
    refine sw_aload_n (pc' := 2) rfl dX5_swap_1 rfl ?_
    refine sw_iload_n (pc' := 3) rfl dX5_swap_2 rfl ?_
    refine sw_iload_n (pc' := 4) rfl dX5_swap_3 rfl ?_
    refine sw_V (M' := MX5_isNoPlace) (d' := d - 1) (bc' := 0) (bs' := 0) (ci := 6) (as := [_, _]) dX5_swap_4 w_1263 ok_X5_isNoPlace (q_isNoPlace hM (by omega)) hM.ob rfl (by omega) (Nat.le_of_ble_eq_true rfl) (Nat.zero_le _) (Nat.zero_le _) (fun E h' n' _ z => det_x z) (det_k ?_)
    rw [show npB σ (nI k) p = true from np_r (nrB_y hk qk)]
    show SW _ _ _ _ _ _ _ (.int 1 :: _) _ _ _
    refine sw_if_ne (pc' := 10) (tgt := 19) rfl dX5_swap_7 (by decide +kernel) (fun c7 => ?_) (fun c7 => ?_)
    · refine sw_iconst (pc' := 20) (v := 1) rfl dX5_swap_19 (by decide +kernel) ?_
      refine sw_goto (tgt := 24) dX5_swap_20 (by decide +kernel) ?_
      refine sw_V (M' := MX5_isStopped__) (d' := d - 1) (bc' := 0) (bs' := 0) (ci := 6) (as := [_]) dX5_swap_24 w_1235 ok_X5_isStopped__ (q_isStopped1 (a := true) hM hA (by omega)) hM.ob rfl (by omega) (Nat.le_of_ble_eq_true rfl) (Nat.zero_le _) (Nat.zero_le _) (fun E h' n' _ z => rp_x z) (rp_k (fun p24 p24ρ p24τ p24M p24A p24F => ?_))
      obtain ⟨Gp24, hGp24, eGp24⟩ := p24M.out
      show SW _ _ _ _ _ _ _ (.int 1 :: _) _ _ _
      refine sw_if_eq (pc' := 30) (tgt := 32) rfl dX5_swap_27 (by decide +kernel) (fun c27 => ?_) (fun c27 => ?_)
      · exact absurd c27 (by decide +kernel)
      · refine sw_iconst (pc' := 31) (v := 0) rfl dX5_swap_30 (by decide +kernel) ?_
        refine sw_ret (v := some _) ⟨dX5_swap_31, _, rfl, rfl⟩ ?_
        rw [opSwap, onRw_y hk qk]
        exact pm_x tc_1 p24M p24A p24F (Nat.le_refl _)
    · exact absurd c7 (by decide +kernel)
  have hck := hI.1 k hk
  rcases idxN (σ.2.1 k) (by omega) p with qP | ⟨P, hP, rfl⟩
  · refine sw_aload_n (pc' := 1) rfl dX5_swap_0 rfl ?_
    refine sw_aload_n (pc' := 2) rfl dX5_swap_1 rfl ?_
    refine sw_iload_n (pc' := 3) rfl dX5_swap_2 rfl ?_
    refine sw_iload_n (pc' := 4) rfl dX5_swap_3 rfl ?_
    refine sw_V (M' := MX5_isNoPlace) (d' := d - 1) (bc' := 0) (bs' := 0) (ci := 6) (as := [_, _]) dX5_swap_4 w_1263 ok_X5_isNoPlace (q_isNoPlace hM (by omega)) hM.ob rfl (by omega) (Nat.le_of_ble_eq_true rfl) (Nat.zero_le _) (Nat.zero_le _) (fun E h' n' _ z => det_x z) (det_k ?_)
    rw [show npB σ (nI k) p = true from np_b (by omega) (by omega) qP]
    show SW _ _ _ _ _ _ _ (.int 1 :: _) _ _ _
    refine sw_if_ne (pc' := 10) (tgt := 19) rfl dX5_swap_7 (by decide +kernel) (fun c7 => ?_) (fun c7 => ?_)
    · refine sw_iconst (pc' := 20) (v := 1) rfl dX5_swap_19 (by decide +kernel) ?_
      refine sw_goto (tgt := 24) dX5_swap_20 (by decide +kernel) ?_
      refine sw_V (M' := MX5_isStopped__) (d' := d - 1) (bc' := 0) (bs' := 0) (ci := 6) (as := [_]) dX5_swap_24 w_1235 ok_X5_isStopped__ (q_isStopped1 (a := true) hM hA (by omega)) hM.ob rfl (by omega) (Nat.le_of_ble_eq_true rfl) (Nat.zero_le _) (Nat.zero_le _) (fun E h' n' _ z => rp_x z) (rp_k (fun p24 p24ρ p24τ p24M p24A p24F => ?_))
      obtain ⟨Gp24, hGp24, eGp24⟩ := p24M.out
      show SW _ _ _ _ _ _ _ (.int 1 :: _) _ _ _
      refine sw_if_eq (pc' := 30) (tgt := 32) rfl dX5_swap_27 (by decide +kernel) (fun c27 => ?_) (fun c27 => ?_)
      · exact absurd c27 (by decide +kernel)
      · refine sw_iconst (pc' := 31) (v := 0) rfl dX5_swap_30 (by decide +kernel) ?_
        refine sw_ret (v := some _) ⟨dX5_swap_31, _, rfl, rfl⟩ ?_
        rw [opSwap, onRw_k hk qk, if_pos qP]
        exact pm_x tc_1 p24M p24A p24F (Nat.le_refl _)
    · exact absurd c7 (by decide +kernel)
  rcases idxN (σ.2.1 k) (by omega) o with qO | ⟨O, hO, rfl⟩
  · refine sw_aload_n (pc' := 1) rfl dX5_swap_0 rfl ?_
    refine sw_aload_n (pc' := 2) rfl dX5_swap_1 rfl ?_
    refine sw_iload_n (pc' := 3) rfl dX5_swap_2 rfl ?_
    refine sw_iload_n (pc' := 4) rfl dX5_swap_3 rfl ?_
    refine sw_V (M' := MX5_isNoPlace) (d' := d - 1) (bc' := 0) (bs' := 0) (ci := 6) (as := [_, _]) dX5_swap_4 w_1263 ok_X5_isNoPlace (q_isNoPlace hM (by omega)) hM.ob rfl (by omega) (Nat.le_of_ble_eq_true rfl) (Nat.zero_le _) (Nat.zero_le _) (fun E h' n' _ z => det_x z) (det_k ?_)
    rw [show npB σ (nI k) (nI P) = false from np_k (by omega) (nrB_k hk qk) (by omega) hP]
    show SW _ _ _ _ _ _ _ (.int 0 :: _) _ _ _
    refine sw_if_ne (pc' := 10) (tgt := 19) rfl dX5_swap_7 (by decide +kernel) (fun c7 => ?_) (fun c7 => ?_)
    · exact absurd c7 (by decide +kernel)
    · refine sw_aload_n (pc' := 11) rfl dX5_swap_10 rfl ?_
      refine sw_iload_n (pc' := 12) rfl dX5_swap_11 rfl ?_
      refine sw_iload_n (pc' := 13) rfl dX5_swap_12 rfl ?_
      refine sw_V (M' := MX5_isNoPlace) (d' := d - 1) (bc' := 0) (bs' := 0) (ci := 6) (as := [_, _]) dX5_swap_13 w_1263 ok_X5_isNoPlace (q_isNoPlace hM (by omega)) hM.ob rfl (by omega) (Nat.le_of_ble_eq_true rfl) (Nat.zero_le _) (Nat.zero_le _) (fun E h' n' _ z => det_x z) (det_k ?_)
      rw [show npB σ (nI k) o = true from np_b (by omega) (by omega) qO]
      show SW _ _ _ _ _ _ _ (.int 1 :: _) _ _ _
      refine sw_if_eq (pc' := 19) (tgt := 23) rfl dX5_swap_16 (by decide +kernel) (fun c16 => ?_) (fun c16 => ?_)
      · exact absurd c16 (by decide +kernel)
      · refine sw_iconst (pc' := 20) (v := 1) rfl dX5_swap_19 (by decide +kernel) ?_
        refine sw_goto (tgt := 24) dX5_swap_20 (by decide +kernel) ?_
        refine sw_V (M' := MX5_isStopped__) (d' := d - 1) (bc' := 0) (bs' := 0) (ci := 6) (as := [_]) dX5_swap_24 w_1235 ok_X5_isStopped__ (q_isStopped1 (a := true) hM hA (by omega)) hM.ob rfl (by omega) (Nat.le_of_ble_eq_true rfl) (Nat.zero_le _) (Nat.zero_le _) (fun E h' n' _ z => rp_x z) (rp_k (fun p24 p24ρ p24τ p24M p24A p24F => ?_))
        obtain ⟨Gp24, hGp24, eGp24⟩ := p24M.out
        show SW _ _ _ _ _ _ _ (.int 1 :: _) _ _ _
        refine sw_if_eq (pc' := 30) (tgt := 32) rfl dX5_swap_27 (by decide +kernel) (fun c27 => ?_) (fun c27 => ?_)
        · exact absurd c27 (by decide +kernel)
        · refine sw_iconst (pc' := 31) (v := 0) rfl dX5_swap_30 (by decide +kernel) ?_
          refine sw_ret (v := some _) ⟨dX5_swap_31, _, rfl, rfl⟩ ?_
          rw [opSwap, onRw_k hk qk, if_neg (nok (by omega) hP), nI_clamp (n := P) (by omega), if_pos qO]
          exact pm_x tc_1 p24M p24A p24F (Nat.le_refl _)
  refine sw_aload_n (pc' := 1) rfl dX5_swap_0 rfl ?_
  refine sw_aload_n (pc' := 2) rfl dX5_swap_1 rfl ?_
  refine sw_iload_n (pc' := 3) rfl dX5_swap_2 rfl ?_
  refine sw_iload_n (pc' := 4) rfl dX5_swap_3 rfl ?_
  refine sw_V (M' := MX5_isNoPlace) (d' := d - 1) (bc' := 0) (bs' := 0) (ci := 6) (as := [_, _]) dX5_swap_4 w_1263 ok_X5_isNoPlace (q_isNoPlace hM (by omega)) hM.ob rfl (by omega) (Nat.le_of_ble_eq_true rfl) (Nat.zero_le _) (Nat.zero_le _) (fun E h' n' _ z => det_x z) (det_k ?_)
  rw [show npB σ (nI k) (nI P) = false from np_k (by omega) (nrB_k hk qk) (by omega) hP]
  show SW _ _ _ _ _ _ _ (.int 0 :: _) _ _ _
  refine sw_if_ne (pc' := 10) (tgt := 19) rfl dX5_swap_7 (by decide +kernel) (fun c7 => ?_) (fun c7 => ?_)
  · exact absurd c7 (by decide +kernel)
  · refine sw_aload_n (pc' := 11) rfl dX5_swap_10 rfl ?_
    refine sw_iload_n (pc' := 12) rfl dX5_swap_11 rfl ?_
    refine sw_iload_n (pc' := 13) rfl dX5_swap_12 rfl ?_
    refine sw_V (M' := MX5_isNoPlace) (d' := d - 1) (bc' := 0) (bs' := 0) (ci := 6) (as := [_, _]) dX5_swap_13 w_1263 ok_X5_isNoPlace (q_isNoPlace hM (by omega)) hM.ob rfl (by omega) (Nat.le_of_ble_eq_true rfl) (Nat.zero_le _) (Nat.zero_le _) (fun E h' n' _ z => det_x z) (det_k ?_)
    rw [show npB σ (nI k) (nI O) = false from np_k (by omega) (nrB_k hk qk) (by omega) hO]
    show SW _ _ _ _ _ _ _ (.int 0 :: _) _ _ _
    refine sw_if_eq (pc' := 19) (tgt := 23) rfl dX5_swap_16 (by decide +kernel) (fun c16 => ?_) (fun c16 => ?_)
    · refine sw_iconst (pc' := 24) (v := 0) rfl dX5_swap_23 (by decide +kernel) ?_
      refine sw_V (M' := MX5_isStopped__) (d' := d - 1) (bc' := 0) (bs' := 0) (ci := 6) (as := [_]) dX5_swap_24 w_1235 ok_X5_isStopped__ (q_isStopped1 (a := false) hM hA (by omega)) hM.ob rfl (by omega) (Nat.le_of_ble_eq_true rfl) (Nat.zero_le _) (Nat.zero_le _) (fun E h' n' _ z => rp_x z) (rp_k (fun p24 p24ρ p24τ p24M p24A p24F => ?_))
      obtain ⟨Gp24, hGp24, eGp24⟩ := p24M.out
      show SW _ _ _ _ _ _ _ (.int 0 :: _) _ _ _
      refine sw_if_eq (pc' := 30) (tgt := 32) rfl dX5_swap_27 (by decide +kernel) (fun c27 => ?_) (fun c27 => ?_)
      · refine sw_aload_n (pc' := 33) rfl dX5_swap_32 rfl ?_
        refine sw_getf (ci := 6) (k := 3) (pc' := 36) rfl dX5_swap_33 (by decide +kernel) w_1116 p24M.ob rfl ?_
        refine sw_iload_n (pc' := 37) rfl dX5_swap_36 rfl ?_
        refine sw_aald (j := k) (pc' := 38) rfl dX5_swap_37 hGp24 (by decide +kernel) (by decide +kernel) rfl (by omega) (by decide +kernel) (eGp24 k (by omega)) ?_
        refine sw_iload_n (pc' := 39) rfl dX5_swap_38 rfl ?_
        refine sw_iald (j := P) (pc' := 40) rfl dX5_swap_39 (p24M.row (k := k) (by omega)) rfl (by omega) (by decide +kernel) ?_
        rw [p24A.1 k (by omega) P (by omega)]
        refine sw_istore (pc' := 42) (lv' := [(4, _), (0, _), (1, _), (2, _), (3, _)]) rfl dX5_swap_40 (by decide +kernel) rfl ?_
        refine sw_aload_n (pc' := 43) rfl dX5_swap_42 rfl ?_
        refine sw_getf (ci := 6) (k := 3) (pc' := 46) rfl dX5_swap_43 (by decide +kernel) w_1116 p24M.ob rfl ?_
        refine sw_iload_n (pc' := 47) rfl dX5_swap_46 rfl ?_
        refine sw_aald (j := k) (pc' := 48) rfl dX5_swap_47 hGp24 (by decide +kernel) (by decide +kernel) rfl (by omega) (by decide +kernel) (eGp24 k (by omega)) ?_
        refine sw_iload_n (pc' := 49) rfl dX5_swap_48 rfl ?_
        refine sw_aload_n (pc' := 50) rfl dX5_swap_49 rfl ?_
        refine sw_getf (ci := 6) (k := 3) (pc' := 53) rfl dX5_swap_50 (by decide +kernel) w_1116 p24M.ob rfl ?_
        refine sw_iload_n (pc' := 54) rfl dX5_swap_53 rfl ?_
        refine sw_aald (j := k) (pc' := 55) rfl dX5_swap_54 hGp24 (by decide +kernel) (by decide +kernel) rfl (by omega) (by decide +kernel) (eGp24 k (by omega)) ?_
        refine sw_iload_n (pc' := 56) rfl dX5_swap_55 rfl ?_
        refine sw_iald (j := O) (pc' := 57) rfl dX5_swap_56 (p24M.row (k := k) (by omega)) rfl (by omega) (by decide +kernel) ?_
        rw [p24A.1 k (by omega) O (by omega)]
        refine sw_iast (j := P) (pc' := 58) rfl dX5_swap_57 (p24M.row (k := k) (by omega)) (by show 100 ≤ _; omega) rfl (by omega) (by decide +kernel) ?_
        refine sw_nm (fun g1 eg1 => ?_)
        have zg1 := (congrFun eg1 (137 + k)).trans (up_s (h := p24) (i := (137 + k)))
        refine sw_aload_n (pc' := 59) rfl dX5_swap_58 rfl ?_
        refine sw_getf (ci := 6) (k := 3) (pc' := 62) rfl dX5_swap_59 (by decide +kernel) w_1116 (((congrFun eg1 135).trans (up_n (by omega))).trans p24M.ob) rfl ?_
        refine sw_iload_n (pc' := 63) rfl dX5_swap_62 rfl ?_
        refine sw_aald (j := k) (pc' := 64) rfl dX5_swap_63 (((congrFun eg1 136).trans (up_n (by omega))).trans hGp24) (by decide +kernel) (by decide +kernel) rfl (by omega) (by decide +kernel) (eGp24 k (by omega)) ?_
        refine sw_iload_n (pc' := 65) rfl dX5_swap_64 rfl ?_
        refine sw_iload (pc' := 67) rfl dX5_swap_65 rfl ?_
        refine sw_iast (j := O) (pc' := 68) rfl dX5_swap_67 zg1 (by show 100 ≤ _; omega) rfl (by omega) (by decide +kernel) ?_
        refine sw_nm (fun g2 eg2 => ?_)
        have zg2 := (congrFun eg2 (137 + k)).trans (up_s (h := g1) (i := (137 + k)))
        refine sw_aload_n (pc' := 69) rfl dX5_swap_68 rfl ?_
        refine sw_getf (ci := 6) (k := 12) (pc' := 72) rfl dX5_swap_69 (by decide +kernel) w_1125 (((congrFun eg2 135).trans (up_n (by omega))).trans (((congrFun eg1 135).trans (up_n (by omega))).trans p24M.ob)) rfl ?_
        refine sw_iload_n (pc' := 73) rfl dX5_swap_72 rfl ?_
        refine sw_dup2 (pc' := 74) rfl dX5_swap_73 rfl rfl ?_
        refine sw_iald (j := k) (pc' := 75) rfl dX5_swap_74 (((congrFun eg2 156).trans (up_n (by omega))).trans (((congrFun eg1 156).trans (up_n (by omega))).trans p24M.tu)) rfl (by omega) (by decide +kernel) ?_
        refine sw_iconst (pc' := 76) (v := 1) rfl dX5_swap_75 (by decide +kernel) ?_
        refine sw_iadd (pc' := 77) rfl dX5_swap_76 ?_
        refine sw_iast (j := k) (pc' := 78) rfl dX5_swap_77 (((congrFun eg2 156).trans (up_n (by omega))).trans (((congrFun eg1 156).trans (up_n (by omega))).trans p24M.tu)) (by decide +kernel) rfl (by omega) (by decide +kernel) ?_
        refine sw_nm (fun g3 eg3 => ?_)
        have zg3 := (congrFun eg3 156).trans (up_s (h := g2) (i := 156))
        refine sw_aload_n (pc' := 79) rfl dX5_swap_78 rfl ?_
        refine sw_getf (ci := 6) (k := 3) (pc' := 82) rfl dX5_swap_79 (by decide +kernel) w_1116 (((congrFun eg3 135).trans (up_n (by omega))).trans (((congrFun eg2 135).trans (up_n (by omega))).trans (((congrFun eg1 135).trans (up_n (by omega))).trans p24M.ob))) rfl ?_
        refine sw_iload_n (pc' := 83) rfl dX5_swap_82 rfl ?_
        refine sw_aald (j := k) (pc' := 84) rfl dX5_swap_83 (((congrFun eg3 136).trans (up_n (by omega))).trans (((congrFun eg2 136).trans (up_n (by omega))).trans (((congrFun eg1 136).trans (up_n (by omega))).trans hGp24))) (by decide +kernel) (by decide +kernel) rfl (by omega) (by decide +kernel) (eGp24 k (by omega)) ?_
        refine sw_iload_n (pc' := 85) rfl dX5_swap_84 rfl ?_
        refine sw_iald (j := P) (pc' := 86) rfl dX5_swap_85 (((congrFun eg3 (137 + k)).trans (up_n (by omega))).trans zg2) rfl (by omega) (by decide +kernel) ?_
        rw [sw_v]
        refine sw_ret (v := some _) ⟨dX5_swap_86, _, rfl, rfl⟩ ?_
        rw [opSwap, onRw_k hk qk, if_neg (nok (by omega) hP), nI_clamp (n := P) (by omega), if_neg (nok (by omega) hO), nI_clamp (n := O) (by omega)]
        exact pm_k (p24M.rwT hk (((congrFun eg3 (137 + k)).trans (up_n (by omega))).trans zg2) zg3 (fun i h1 h2 => (congrFun eg3 i).trans ((up_n (by omega)).trans ((congrFun eg2 i).trans ((up_n (by omega)).trans ((congrFun eg1 i).trans ((up_n (by omega)).trans (rfl)))))))) (p24A.shU (fun j hj => up_at (f := up (σ.1 k) P (σ.1 k O)) (up_at (p24A.1 k hk)) j hj)) (p24F.tr (FrM.of1 (fun i q => (congrFun eg3 i).trans ((up_n (by omega)).trans ((congrFun eg2 i).trans ((up_n (by omega)).trans ((congrFun eg1 i).trans ((up_n (by omega)).trans (rfl)))))))) (Nat.le_refl _)) (Nat.le_refl _)
      · exact absurd c27 (by decide +kernel)
    · exact absurd c16 (by decide +kernel)
end
section
/-! 43.model -/
/-! the model's walks -/
theorem MM.dropU {h h' : AH} {ρ : Nat → Nat → Int32} {τ : Nat → Int32} {σ : CS} {th : Int32} {k : Nat} (hM : MM h ρ τ σ th) (hk : k < 6) (e0 : h' 150 = .inl (0, 6, .inl (up (shF σ) k (-1)))) (hF : ∀ i, i ≠ 150 → h' i = h i) : MM h' ρ (up τ k (τ k)) (wU σ k (false, (σ.2.2.2.2.1 k).2)) th := by
  refine hM.wkU hk (q := (false, (σ.2.2.2.2.1 k).2)) e0 ?_ ?_ ?_ ?_ ?_ ?_ (fun i hi => hF i (by omega))
  · rw [hF 151 (by decide +kernel), hM.hw]
    show _ = Sum.inl (0, 6, Sum.inl (up (fun j => (σ.2.2.2.2.1 j).2.2.1) k ((fun j => (σ.2.2.2.2.1 j).2.2.1) k)))
    rw [up_id]
  · rw [hF 152 (by decide +kernel), hM.gi]
    show _ = Sum.inl (0, 6, Sum.inl (up (fun j => (σ.2.2.2.2.1 j).2.2.2.1) k ((fun j => (σ.2.2.2.2.1 j).2.2.2.1) k)))
    rw [up_id]
  · rw [hF 153 (by decide +kernel), hM.st]
    show _ = Sum.inl (0, 6, Sum.inl (up (fun j => (σ.2.2.2.2.1 j).2.2.2.2.2.1) k ((fun j => (σ.2.2.2.2.1 j).2.2.2.2.2.1) k)))
    rw [up_id]
  · rw [hF 154 (by decide +kernel), hM.pl]
    show _ = Sum.inl (0, 6, Sum.inl (up (wAh σ) k (wAh σ k)))
    rw [up_id]
  · rw [hF 155 (by decide +kernel), hM.ct]
    show _ = Sum.inl (1, 6, Sum.inl (up (fun j => bI (σ.2.2.2.2.1 j).2.2.2.2.2.2.2) k ((fun j => bI (σ.2.2.2.2.1 j).2.2.2.2.2.2.2) k)))
    rw [up_id]
  · rw [hF 157 (by decide +kernel), hM.td, up_id]
theorem AG.dropU {ρ : Nat → Nat → Int32} {τ : Nat → Int32} {σ : CS} {k : Nat} (hA : AG ρ τ σ) (hk : k < 6) : AG ρ (up τ k (τ k)) (wU σ k (false, (σ.2.2.2.2.1 k).2)) := hA.wkU (hA.2 k hk)
theorem MM.walkU {h h' : AH} {ρ : Nat → Nat → Int32} {τ : Nat → Int32} {σ : CS} {th : Int32} {k j : Nat} {y : Int32} (hM : MM h ρ τ σ th) (hk : k < 6) (e0 : h' 150 = .inl (0, 6, .inl (up (shF σ) k (nI j)))) (e1 : h' 151 = .inl (0, 6, .inl (up (fun j => (σ.2.2.2.2.1 j).2.2.1) k y))) (e2 : h' 152 = .inl (0, 6, .inl (up (fun j => (σ.2.2.2.2.1 j).2.2.2.1) k 0)))
    (e3 : h' 153 = .inl (0, 6, .inl (up (fun j => (σ.2.2.2.2.1 j).2.2.2.2.2.1) k (σ.2.2.1 j)))) (e4 : h' 154 = .inl (0, 6, .inl (up (wAh σ) k 0))) (e5 : h' 155 = .inl (1, 6, .inl (up (fun j => bI (σ.2.2.2.2.1 j).2.2.2.2.2.2.2) k (vp_nar .boolean 0)))) (hF : ∀ i, i < 150 ∨ 158 ≤ i ∨ i = 156 ∨ i = 157 → h' i = h i) : MM h' ρ (up τ k (τ k)) (wU σ k (true, j, y, 0, 0, σ.2.2.1 j, σ.2.2.2.1 j, false)) th :=
  hM.wkU hk (q := (true, j, y, 0, 0, σ.2.2.1 j, σ.2.2.2.1 j, false)) e0 e1 e2 e3 (e4.trans (congrArg (fun z => Sum.inl (0, 6, Sum.inl (up (wAh σ) k z))) (show (0 : Int32) = 0 - 0 by decide +kernel))) e5 (by rw [hF 157 (by decide +kernel), hM.td, up_id]) (fun i hi => hF i (by omega))
theorem AG.walkU {ρ : Nat → Nat → Int32} {τ : Nat → Int32} {σ : CS} {k j : Nat} {y a b : Int32} (hA : AG ρ τ σ) : AG ρ (up τ k (τ k)) (wU σ k (true, j, y, 0, 0, a, b, false)) := hA.wkU (fun e => by cases e)
theorem wHM_s {σ : CS} {k : Nat} (h : wSt σ k = true) : wHM σ k = false := by
  have e := of_decide_eq_true h
  unfold wHM hmB
  rw [decide_eq_true e]
  rfl
theorem wHM_t {σ : CS} {k : Nat} (h : wSt σ k = false) (g : decide (wAh σ k < nI (σ.2.1 (wO σ k))) = true) : ¬ wHM σ k = false := by rw [wHM_m h, g]; decide
theorem wHM_f {σ : CS} {k : Nat} (h : wSt σ k = false) (g : decide (wAh σ k < nI (σ.2.1 (wO σ k))) = false) : wHM σ k = false := by rw [wHM_m h, g]
theorem wGa_s {σ : CS} {k : Nat} (h : wSt σ k = true) : wGa σ k = false := by unfold wGa; rw [h]; rfl
theorem wGa_1 {σ : CS} {k : Nat} (h : (σ.2.2.2.2.1 k).2.2.1 = 1) : wGa σ k = false := by unfold wGa; rw [decide_eq_false (fun q => q h), Bool.and_false]
theorem wGa_t {σ : CS} {k : Nat} (h : wSt σ k = false) (g : ¬ (σ.2.2.2.2.1 k).2.2.1 = 1) : wGa σ k = true := by unfold wGa; rw [h, decide_eq_true g]; rfl
theorem tcl {A : Nat} (h : A < 2 ^ 31) {x : Int32} (e : x = nI A) : x.toNatClampNeg = A := by rw [e, nI_clamp h]
theorem q_drop {h : AH} {d bc bs n : Nat} {σ : CS} {th : Int32} {a : Int32} (hR : RMo h σ th) (hI : Iv σ) (hn : 159 ≤ n) (hd : 8 ≤ d) (h1 : 1 ≤ bc) (h2 : 12 ≤ bs)  : SM SR0 MX5_drop d bc bs [.ref 135, .int a] h n (PM h n (tc sI sI) (opDrop σ a)) := by
  obtain ⟨ρ, τ, hM, hA⟩ := hR
  obtain ⟨G0, hG0, eG0⟩ := hM.out
  refine sm_of pn_OverwalksModel rfl (Nat.le_of_ble_eq_true rfl) ?_
  rcases idxN 6 (by decide +kernel) a with qk1 | ⟨k, hk, rfl⟩
  · refine sw_aload_n (pc' := 1) rfl dX5_drop_0 rfl ?_
    refine sw_iload_n (pc' := 2) rfl dX5_drop_1 rfl ?_
    refine sw_S (M' := MX5_isNoWalk) (d' := d - 1) (bc' := 0) (bs' := 0) (as := [_]) dX5_drop_2 w_1306 ok_X5_isNoWalk (q_isNoWalk (by omega)) (by omega) (Nat.le_of_ble_eq_true rfl) (Nat.zero_le _) (Nat.zero_le _) (fun E h' n' _ z => det_x z) (det_k ?_)
    rw [show inB a 0 5 = false from no_x (N := 5) (by decide +kernel) qk1]
    show SW _ _ _ _ _ _ _ (.int 1 :: _) _ _ _
    refine sw_V (M' := MX5_isStopped__) (d' := d - 1) (bc' := 0) (bs' := 0) (ci := 6) (as := [_]) dX5_drop_5 w_1235 ok_X5_isStopped__ (q_isStopped1 (a := true) hM hA (by omega)) hM.ob rfl (by omega) (Nat.le_of_ble_eq_true rfl) (Nat.zero_le _) (Nat.zero_le _) (fun E h' n' _ z => rp_x z) (rp_k (fun p5 p5ρ p5τ p5M p5A p5F => ?_))
    obtain ⟨Gp5, hGp5, eGp5⟩ := p5M.out
    show SW _ _ _ _ _ _ _ (.int 1 :: _) _ _ _
    refine sw_if_eq (pc' := 11) (tgt := 13) rfl dX5_drop_8 (by decide +kernel) (fun c8 => ?_) (fun c8 => ?_)
    · exact absurd c8 (by decide +kernel)
    · refine sw_iconst (pc' := 12) (v := 0) rfl dX5_drop_11 (by decide +kernel) ?_
      refine sw_ret (v := some _) ⟨dX5_drop_12, _, rfl, rfl⟩ ?_
      rw [opDrop, onWk_x qk1]
      exact pm_x tc_1 p5M p5A p5F (Nat.le_refl _)
  have ovk := hI.2.2.2.2.2.2.1 k hk
  have hcwk := hI.1 _ ovk
  rcases hm : (σ.2.2.2.2.1 k).1 with _ | _
  · skip
    refine sw_aload_n (pc' := 1) rfl dX5_drop_0 rfl ?_
    refine sw_iload_n (pc' := 2) rfl dX5_drop_1 rfl ?_
    refine sw_S (M' := MX5_isNoWalk) (d' := d - 1) (bc' := 0) (bs' := 0) (as := [_]) dX5_drop_2 w_1306 ok_X5_isNoWalk (q_isNoWalk (by omega)) (by omega) (Nat.le_of_ble_eq_true rfl) (Nat.zero_le _) (Nat.zero_le _) (fun E h' n' _ z => det_x z) (det_k ?_)
    rw [show inB (nI k) 0 5 = true from inB_k (N := 5) (by omega) (by decide +kernel)]
    show SW _ _ _ _ _ _ _ (.int 0 :: _) _ _ _
    refine sw_V (M' := MX5_isStopped__) (d' := d - 1) (bc' := 0) (bs' := 0) (ci := 6) (as := [_]) dX5_drop_5 w_1235 ok_X5_isStopped__ (q_isStopped1 (a := false) hM hA (by omega)) hM.ob rfl (by omega) (Nat.le_of_ble_eq_true rfl) (Nat.zero_le _) (Nat.zero_le _) (fun E h' n' _ z => rp_x z) (rp_k (fun p5 p5ρ p5τ p5M p5A p5F => ?_))
    obtain ⟨Gp5, hGp5, eGp5⟩ := p5M.out
    show SW _ _ _ _ _ _ _ (.int 0 :: _) _ _ _
    refine sw_if_eq (pc' := 11) (tgt := 13) rfl dX5_drop_8 (by decide +kernel) (fun c8 => ?_) (fun c8 => ?_)
    · refine sw_aload_n (pc' := 14) rfl dX5_drop_13 rfl ?_
      refine sw_getf (ci := 6) (k := 6) (pc' := 17) rfl dX5_drop_14 (by decide +kernel) w_1119 p5M.ob rfl ?_
      refine sw_iload_n (pc' := 18) rfl dX5_drop_17 rfl ?_
      refine sw_iald (j := k) (pc' := 19) rfl dX5_drop_18 p5M.sh rfl (by omega) (by decide +kernel) ?_
      rw [shF_n (k := k) (by omega) hm]
      refine sw_iconst (pc' := 20) (v := (-1)) rfl dX5_drop_19 (by decide +kernel) ?_
      refine sw_icmp_eq (pc' := 23) (tgt := 27) rfl dX5_drop_20 (by decide +kernel) (fun c20 => ?_) (fun c20 => ?_)
      · refine sw_iconst (pc' := 28) (v := 0) rfl dX5_drop_27 (by decide +kernel) ?_
        refine sw_istore_n (pc' := 29) (lv' := [(2, _), (0, _), (1, _)]) rfl dX5_drop_28 (by decide +kernel) rfl ?_
        refine sw_aload_n (pc' := 30) rfl dX5_drop_29 rfl ?_
        refine sw_getf (ci := 6) (k := 6) (pc' := 33) rfl dX5_drop_30 (by decide +kernel) w_1119 p5M.ob rfl ?_
        refine sw_iload_n (pc' := 34) rfl dX5_drop_33 rfl ?_
        refine sw_iconst (pc' := 35) (v := (-1)) rfl dX5_drop_34 (by decide +kernel) ?_
        refine sw_iast (j := k) (pc' := 36) rfl dX5_drop_35 p5M.sh (by decide +kernel) rfl (by omega) (by decide +kernel) ?_
        refine sw_nm (fun g1 eg1 => ?_)
        have zg1 := (congrFun eg1 150).trans (up_s (h := p5) (i := 150))
        refine sw_iload_n (pc' := 37) rfl dX5_drop_36 rfl ?_
        refine sw_S (M' := MX5_one) (d' := d - 1) (bc' := 0) (bs' := 0) (as := [_]) dX5_drop_37 w_1196 ok_X5_one (q_one (q := false)) (by omega) (Nat.le_of_ble_eq_true rfl) (Nat.zero_le _) (Nat.zero_le _) (fun E h' n' _ z => det_x z) (det_k ?_)
        show SW _ _ _ _ _ _ _ (.int 0 :: _) _ _ _
        refine sw_ret (v := some _) ⟨dX5_drop_40, _, rfl, rfl⟩ ?_
        rw [opDrop, onWk_k hk, hm]
        exact pm_k (p5M.dropU hk zg1 (fun i h1 => (congrFun eg1 i).trans ((up_n h1).trans (rfl)))) (p5A.dropU hk) (p5F.tr (FrM.of1 (fun i q => (congrFun eg1 i).trans ((up_n (by omega)).trans (rfl)))) (Nat.le_refl _)) (Nat.le_refl _)
      · exact absurd c20 (by decide +kernel)
    · exact absurd c8 (by decide +kernel)
  · skip
    refine sw_aload_n (pc' := 1) rfl dX5_drop_0 rfl ?_
    refine sw_iload_n (pc' := 2) rfl dX5_drop_1 rfl ?_
    refine sw_S (M' := MX5_isNoWalk) (d' := d - 1) (bc' := 0) (bs' := 0) (as := [_]) dX5_drop_2 w_1306 ok_X5_isNoWalk (q_isNoWalk (by omega)) (by omega) (Nat.le_of_ble_eq_true rfl) (Nat.zero_le _) (Nat.zero_le _) (fun E h' n' _ z => det_x z) (det_k ?_)
    rw [show inB (nI k) 0 5 = true from inB_k (N := 5) (by omega) (by decide +kernel)]
    show SW _ _ _ _ _ _ _ (.int 0 :: _) _ _ _
    refine sw_V (M' := MX5_isStopped__) (d' := d - 1) (bc' := 0) (bs' := 0) (ci := 6) (as := [_]) dX5_drop_5 w_1235 ok_X5_isStopped__ (q_isStopped1 (a := false) hM hA (by omega)) hM.ob rfl (by omega) (Nat.le_of_ble_eq_true rfl) (Nat.zero_le _) (Nat.zero_le _) (fun E h' n' _ z => rp_x z) (rp_k (fun p5 p5ρ p5τ p5M p5A p5F => ?_))
    obtain ⟨Gp5, hGp5, eGp5⟩ := p5M.out
    show SW _ _ _ _ _ _ _ (.int 0 :: _) _ _ _
    refine sw_if_eq (pc' := 11) (tgt := 13) rfl dX5_drop_8 (by decide +kernel) (fun c8 => ?_) (fun c8 => ?_)
    · refine sw_aload_n (pc' := 14) rfl dX5_drop_13 rfl ?_
      refine sw_getf (ci := 6) (k := 6) (pc' := 17) rfl dX5_drop_14 (by decide +kernel) w_1119 p5M.ob rfl ?_
      refine sw_iload_n (pc' := 18) rfl dX5_drop_17 rfl ?_
      refine sw_iald (j := k) (pc' := 19) rfl dX5_drop_18 p5M.sh rfl (by omega) (by decide +kernel) ?_
      rw [shF_m (k := k) (by omega) hm]
      refine sw_iconst (pc' := 20) (v := (-1)) rfl dX5_drop_19 (by decide +kernel) ?_
      refine sw_icmp_eq (pc' := 23) (tgt := 27) rfl dX5_drop_20 (by decide +kernel) (fun c20 => ?_) (fun c20 => ?_)
      · exact absurd c20 (nI_ne1 (by omega))
      · refine sw_iconst (pc' := 24) (v := 1) rfl dX5_drop_23 (by decide +kernel) ?_
        refine sw_goto (tgt := 28) dX5_drop_24 (by decide +kernel) ?_
        refine sw_istore_n (pc' := 29) (lv' := [(2, _), (0, _), (1, _)]) rfl dX5_drop_28 (by decide +kernel) rfl ?_
        refine sw_aload_n (pc' := 30) rfl dX5_drop_29 rfl ?_
        refine sw_getf (ci := 6) (k := 6) (pc' := 33) rfl dX5_drop_30 (by decide +kernel) w_1119 p5M.ob rfl ?_
        refine sw_iload_n (pc' := 34) rfl dX5_drop_33 rfl ?_
        refine sw_iconst (pc' := 35) (v := (-1)) rfl dX5_drop_34 (by decide +kernel) ?_
        refine sw_iast (j := k) (pc' := 36) rfl dX5_drop_35 p5M.sh (by decide +kernel) rfl (by omega) (by decide +kernel) ?_
        refine sw_nm (fun g2 eg2 => ?_)
        have zg2 := (congrFun eg2 150).trans (up_s (h := p5) (i := 150))
        refine sw_iload_n (pc' := 37) rfl dX5_drop_36 rfl ?_
        refine sw_S (M' := MX5_one) (d' := d - 1) (bc' := 0) (bs' := 0) (as := [_]) dX5_drop_37 w_1196 ok_X5_one (q_one (q := true)) (by omega) (Nat.le_of_ble_eq_true rfl) (Nat.zero_le _) (Nat.zero_le _) (fun E h' n' _ z => det_x z) (det_k ?_)
        show SW _ _ _ _ _ _ _ (.int 1 :: _) _ _ _
        refine sw_ret (v := some _) ⟨dX5_drop_40, _, rfl, rfl⟩ ?_
        rw [opDrop, onWk_k hk, hm]
        exact pm_k (p5M.dropU hk zg2 (fun i h1 => (congrFun eg2 i).trans ((up_n h1).trans (rfl)))) (p5A.dropU hk) (p5F.tr (FrM.of1 (fun i q => (congrFun eg2 i).trans ((up_n (by omega)).trans (rfl)))) (Nat.le_refl _)) (Nat.le_refl _)
    · exact absurd c8 (by decide +kernel)
theorem q_walk {h : AH} {d bc bs n : Nat} {σ : CS} {th : Int32} {a b y : Int32} (hR : RMo h σ th) (hI : Iv σ) (hn : 159 ≤ n) (hd : 8 ≤ d) (h1 : 1 ≤ bc) (h2 : 12 ≤ bs)  : SM SR0 MX5_walk d bc bs [.ref 135, .int a, .int b, .int y] h n (PM h n (tc sI sA) (opWalk σ a b y)) := by
  obtain ⟨ρ, τ, hM, hA⟩ := hR
  obtain ⟨G0, hG0, eG0⟩ := hM.out
  refine sm_of pn_OverwalksModel rfl (Nat.le_of_ble_eq_true rfl) ?_
  rcases idxN 6 (by decide +kernel) a with qk1 | ⟨k, hk, rfl⟩
  · refine sw_aload_n (pc' := 1) rfl dX5_walk_0 rfl ?_
    refine sw_iload_n (pc' := 2) rfl dX5_walk_1 rfl ?_
    refine sw_S (M' := MX5_isNoWalk) (d' := d - 1) (bc' := 0) (bs' := 0) (as := [_]) dX5_walk_2 w_1306 ok_X5_isNoWalk (q_isNoWalk (by omega)) (by omega) (Nat.le_of_ble_eq_true rfl) (Nat.zero_le _) (Nat.zero_le _) (fun E h' n' _ z => det_x z) (det_k ?_)
    rw [show inB a 0 5 = false from no_x (N := 5) (by decide +kernel) qk1]
    show SW _ _ _ _ _ _ _ (.int 1 :: _) _ _ _
    refine sw_if_ne (pc' := 8) (tgt := 15) rfl dX5_walk_5 (by decide +kernel) (fun c5 => ?_) (fun c5 => ?_)
    · refine sw_iconst (pc' := 16) (v := 1) rfl dX5_walk_15 (by decide +kernel) ?_
      refine sw_goto (tgt := 20) dX5_walk_16 (by decide +kernel) ?_
      refine sw_iload_n (pc' := 21) rfl dX5_walk_20 rfl ?_
      refine sw_iconst (pc' := 22) (v := 0) rfl dX5_walk_21 (by decide +kernel) ?_
      refine sw_iconst (pc' := 23) (v := 2) rfl dX5_walk_22 (by decide +kernel) ?_
      refine sw_S (M' := MX5_isIn) (d' := d - 1) (bc' := 0) (bs' := 0) (as := [_, _, _]) dX5_walk_23 w_1168 ok_X5_isIn (q_isIn) (by omega) (Nat.le_of_ble_eq_true rfl) (Nat.zero_le _) (Nat.zero_le _) (fun E h' n' _ z => det_x z) (det_k ?_)
      refine sw_if_eq (pc' := 29) (tgt := 38) rfl dX5_walk_26 (by decide +kernel) (fun c26 => ?_) (fun c26 => ?_)
      · refine sw_iconst (pc' := 39) (v := 1) rfl dX5_walk_38 (by decide +kernel) ?_
        refine sw_goto (tgt := 43) dX5_walk_39 (by decide +kernel) ?_
        refine sw_V (M' := MX5_isStopped_) (d' := d - 1) (bc' := 0) (bs' := 0) (ci := 6) (as := [_, _]) dX5_walk_43 w_1215 ok_X5_isStopped_ (q_isStopped2 (a := true) (b := true) hM hA (by omega)) hM.ob rfl (by omega) (Nat.le_of_ble_eq_true rfl) (Nat.zero_le _) (Nat.zero_le _) (fun E h' n' _ z => rp_x z) (rp_k (fun p43 p43ρ p43τ p43M p43A p43F => ?_))
        obtain ⟨Gp43, hGp43, eGp43⟩ := p43M.out
        show SW _ _ _ _ _ _ _ (.int 1 :: _) _ _ _
        refine sw_if_eq (pc' := 49) (tgt := 51) rfl dX5_walk_46 (by decide +kernel) (fun c46 => ?_) (fun c46 => ?_)
        · exact absurd c46 (by decide +kernel)
        · refine sw_iconst (pc' := 50) (v := 0) rfl dX5_walk_49 (by decide +kernel) ?_
          refine sw_ret (v := some _) ⟨dX5_walk_50, _, rfl, rfl⟩ ?_
          rw [opWalk, onWk_x qk1]
          exact pm_x tc_1 p43M p43A p43F (Nat.le_refl _)
      · refine sw_iload_n (pc' := 30) rfl dX5_walk_29 rfl ?_
        refine sw_iconst (pc' := 31) (v := 2) rfl dX5_walk_30 (by decide +kernel) ?_
        refine sw_icmp_ne (pc' := 34) (tgt := 42) rfl dX5_walk_31 (by decide +kernel) (fun c31 => ?_) (fun c31 => ?_)
        · refine sw_iconst (pc' := 43) (v := 0) rfl dX5_walk_42 (by decide +kernel) ?_
          refine sw_V (M' := MX5_isStopped_) (d' := d - 1) (bc' := 0) (bs' := 0) (ci := 6) (as := [_, _]) dX5_walk_43 w_1215 ok_X5_isStopped_ (q_isStopped2 (a := true) (b := false) hM hA (by omega)) hM.ob rfl (by omega) (Nat.le_of_ble_eq_true rfl) (Nat.zero_le _) (Nat.zero_le _) (fun E h' n' _ z => rp_x z) (rp_k (fun p43 p43ρ p43τ p43M p43A p43F => ?_))
          obtain ⟨Gp43, hGp43, eGp43⟩ := p43M.out
          show SW _ _ _ _ _ _ _ (.int 1 :: _) _ _ _
          refine sw_if_eq (pc' := 49) (tgt := 51) rfl dX5_walk_46 (by decide +kernel) (fun c46 => ?_) (fun c46 => ?_)
          · exact absurd c46 (by decide +kernel)
          · refine sw_iconst (pc' := 50) (v := 0) rfl dX5_walk_49 (by decide +kernel) ?_
            refine sw_ret (v := some _) ⟨dX5_walk_50, _, rfl, rfl⟩ ?_
            rw [opWalk, onWk_x qk1]
            exact pm_x tc_1 p43M p43A p43F (Nat.le_refl _)
        · refine sw_iload_n (pc' := 35) rfl dX5_walk_34 rfl ?_
          refine sw_if_eq (pc' := 38) (tgt := 42) rfl dX5_walk_35 (by decide +kernel) (fun c35 => ?_) (fun c35 => ?_)
          · refine sw_iconst (pc' := 43) (v := 0) rfl dX5_walk_42 (by decide +kernel) ?_
            refine sw_V (M' := MX5_isStopped_) (d' := d - 1) (bc' := 0) (bs' := 0) (ci := 6) (as := [_, _]) dX5_walk_43 w_1215 ok_X5_isStopped_ (q_isStopped2 (a := true) (b := false) hM hA (by omega)) hM.ob rfl (by omega) (Nat.le_of_ble_eq_true rfl) (Nat.zero_le _) (Nat.zero_le _) (fun E h' n' _ z => rp_x z) (rp_k (fun p43 p43ρ p43τ p43M p43A p43F => ?_))
            obtain ⟨Gp43, hGp43, eGp43⟩ := p43M.out
            show SW _ _ _ _ _ _ _ (.int 1 :: _) _ _ _
            refine sw_if_eq (pc' := 49) (tgt := 51) rfl dX5_walk_46 (by decide +kernel) (fun c46 => ?_) (fun c46 => ?_)
            · exact absurd c46 (by decide +kernel)
            · refine sw_iconst (pc' := 50) (v := 0) rfl dX5_walk_49 (by decide +kernel) ?_
              refine sw_ret (v := some _) ⟨dX5_walk_50, _, rfl, rfl⟩ ?_
              rw [opWalk, onWk_x qk1]
              exact pm_x tc_1 p43M p43A p43F (Nat.le_refl _)
          · refine sw_iconst (pc' := 39) (v := 1) rfl dX5_walk_38 (by decide +kernel) ?_
            refine sw_goto (tgt := 43) dX5_walk_39 (by decide +kernel) ?_
            refine sw_V (M' := MX5_isStopped_) (d' := d - 1) (bc' := 0) (bs' := 0) (ci := 6) (as := [_, _]) dX5_walk_43 w_1215 ok_X5_isStopped_ (q_isStopped2 (a := true) (b := true) hM hA (by omega)) hM.ob rfl (by omega) (Nat.le_of_ble_eq_true rfl) (Nat.zero_le _) (Nat.zero_le _) (fun E h' n' _ z => rp_x z) (rp_k (fun p43 p43ρ p43τ p43M p43A p43F => ?_))
            obtain ⟨Gp43, hGp43, eGp43⟩ := p43M.out
            show SW _ _ _ _ _ _ _ (.int 1 :: _) _ _ _
            refine sw_if_eq (pc' := 49) (tgt := 51) rfl dX5_walk_46 (by decide +kernel) (fun c46 => ?_) (fun c46 => ?_)
            · exact absurd c46 (by decide +kernel)
            · refine sw_iconst (pc' := 50) (v := 0) rfl dX5_walk_49 (by decide +kernel) ?_
              refine sw_ret (v := some _) ⟨dX5_walk_50, _, rfl, rfl⟩ ?_
              rw [opWalk, onWk_x qk1]
              exact pm_x tc_1 p43M p43A p43F (Nat.le_refl _)
    · exact absurd c5 (by decide +kernel)
  have ovk := hI.2.2.2.2.2.2.1 k hk
  have hcwk := hI.1 _ ovk
  rcases idxN 11 (by decide +kernel) b with qj1 | ⟨j, hj, rfl⟩
  · refine sw_aload_n (pc' := 1) rfl dX5_walk_0 rfl ?_
    refine sw_iload_n (pc' := 2) rfl dX5_walk_1 rfl ?_
    refine sw_S (M' := MX5_isNoWalk) (d' := d - 1) (bc' := 0) (bs' := 0) (as := [_]) dX5_walk_2 w_1306 ok_X5_isNoWalk (q_isNoWalk (by omega)) (by omega) (Nat.le_of_ble_eq_true rfl) (Nat.zero_le _) (Nat.zero_le _) (fun E h' n' _ z => det_x z) (det_k ?_)
    rw [show inB (nI k) 0 5 = true from inB_k (N := 5) (by omega) (by decide +kernel)]
    show SW _ _ _ _ _ _ _ (.int 0 :: _) _ _ _
    refine sw_if_ne (pc' := 8) (tgt := 15) rfl dX5_walk_5 (by decide +kernel) (fun c5 => ?_) (fun c5 => ?_)
    · exact absurd c5 (by decide +kernel)
    · refine sw_iload_n (pc' := 9) rfl dX5_walk_8 rfl ?_
      refine sw_S (M' := MX5_isNone) (d' := d - 1) (bc' := 0) (bs' := 0) (as := [_]) dX5_walk_9 w_1165 ok_X5_isNone (q_isNone (by omega)) (by omega) (Nat.le_of_ble_eq_true rfl) (Nat.zero_le _) (Nat.zero_le _) (fun E h' n' _ z => det_x z) (det_k ?_)
      rw [show inB b 0 10 = false from no_x (N := 10) (by decide +kernel) qj1]
      show SW _ _ _ _ _ _ _ (.int 1 :: _) _ _ _
      refine sw_if_eq (pc' := 15) (tgt := 19) rfl dX5_walk_12 (by decide +kernel) (fun c12 => ?_) (fun c12 => ?_)
      · exact absurd c12 (by decide +kernel)
      · refine sw_iconst (pc' := 16) (v := 1) rfl dX5_walk_15 (by decide +kernel) ?_
        refine sw_goto (tgt := 20) dX5_walk_16 (by decide +kernel) ?_
        refine sw_iload_n (pc' := 21) rfl dX5_walk_20 rfl ?_
        refine sw_iconst (pc' := 22) (v := 0) rfl dX5_walk_21 (by decide +kernel) ?_
        refine sw_iconst (pc' := 23) (v := 2) rfl dX5_walk_22 (by decide +kernel) ?_
        refine sw_S (M' := MX5_isIn) (d' := d - 1) (bc' := 0) (bs' := 0) (as := [_, _, _]) dX5_walk_23 w_1168 ok_X5_isIn (q_isIn) (by omega) (Nat.le_of_ble_eq_true rfl) (Nat.zero_le _) (Nat.zero_le _) (fun E h' n' _ z => det_x z) (det_k ?_)
        refine sw_if_eq (pc' := 29) (tgt := 38) rfl dX5_walk_26 (by decide +kernel) (fun c26 => ?_) (fun c26 => ?_)
        · refine sw_iconst (pc' := 39) (v := 1) rfl dX5_walk_38 (by decide +kernel) ?_
          refine sw_goto (tgt := 43) dX5_walk_39 (by decide +kernel) ?_
          refine sw_V (M' := MX5_isStopped_) (d' := d - 1) (bc' := 0) (bs' := 0) (ci := 6) (as := [_, _]) dX5_walk_43 w_1215 ok_X5_isStopped_ (q_isStopped2 (a := true) (b := true) hM hA (by omega)) hM.ob rfl (by omega) (Nat.le_of_ble_eq_true rfl) (Nat.zero_le _) (Nat.zero_le _) (fun E h' n' _ z => rp_x z) (rp_k (fun p43 p43ρ p43τ p43M p43A p43F => ?_))
          obtain ⟨Gp43, hGp43, eGp43⟩ := p43M.out
          show SW _ _ _ _ _ _ _ (.int 1 :: _) _ _ _
          refine sw_if_eq (pc' := 49) (tgt := 51) rfl dX5_walk_46 (by decide +kernel) (fun c46 => ?_) (fun c46 => ?_)
          · exact absurd c46 (by decide +kernel)
          · refine sw_iconst (pc' := 50) (v := 0) rfl dX5_walk_49 (by decide +kernel) ?_
            refine sw_ret (v := some _) ⟨dX5_walk_50, _, rfl, rfl⟩ ?_
            rw [opWalk, onWk_k hk, onSh_x qj1]
            exact pm_x tc_1 p43M p43A p43F (Nat.le_refl _)
        · refine sw_iload_n (pc' := 30) rfl dX5_walk_29 rfl ?_
          refine sw_iconst (pc' := 31) (v := 2) rfl dX5_walk_30 (by decide +kernel) ?_
          refine sw_icmp_ne (pc' := 34) (tgt := 42) rfl dX5_walk_31 (by decide +kernel) (fun c31 => ?_) (fun c31 => ?_)
          · refine sw_iconst (pc' := 43) (v := 0) rfl dX5_walk_42 (by decide +kernel) ?_
            refine sw_V (M' := MX5_isStopped_) (d' := d - 1) (bc' := 0) (bs' := 0) (ci := 6) (as := [_, _]) dX5_walk_43 w_1215 ok_X5_isStopped_ (q_isStopped2 (a := true) (b := false) hM hA (by omega)) hM.ob rfl (by omega) (Nat.le_of_ble_eq_true rfl) (Nat.zero_le _) (Nat.zero_le _) (fun E h' n' _ z => rp_x z) (rp_k (fun p43 p43ρ p43τ p43M p43A p43F => ?_))
            obtain ⟨Gp43, hGp43, eGp43⟩ := p43M.out
            show SW _ _ _ _ _ _ _ (.int 1 :: _) _ _ _
            refine sw_if_eq (pc' := 49) (tgt := 51) rfl dX5_walk_46 (by decide +kernel) (fun c46 => ?_) (fun c46 => ?_)
            · exact absurd c46 (by decide +kernel)
            · refine sw_iconst (pc' := 50) (v := 0) rfl dX5_walk_49 (by decide +kernel) ?_
              refine sw_ret (v := some _) ⟨dX5_walk_50, _, rfl, rfl⟩ ?_
              rw [opWalk, onWk_k hk, onSh_x qj1]
              exact pm_x tc_1 p43M p43A p43F (Nat.le_refl _)
          · refine sw_iload_n (pc' := 35) rfl dX5_walk_34 rfl ?_
            refine sw_if_eq (pc' := 38) (tgt := 42) rfl dX5_walk_35 (by decide +kernel) (fun c35 => ?_) (fun c35 => ?_)
            · refine sw_iconst (pc' := 43) (v := 0) rfl dX5_walk_42 (by decide +kernel) ?_
              refine sw_V (M' := MX5_isStopped_) (d' := d - 1) (bc' := 0) (bs' := 0) (ci := 6) (as := [_, _]) dX5_walk_43 w_1215 ok_X5_isStopped_ (q_isStopped2 (a := true) (b := false) hM hA (by omega)) hM.ob rfl (by omega) (Nat.le_of_ble_eq_true rfl) (Nat.zero_le _) (Nat.zero_le _) (fun E h' n' _ z => rp_x z) (rp_k (fun p43 p43ρ p43τ p43M p43A p43F => ?_))
              obtain ⟨Gp43, hGp43, eGp43⟩ := p43M.out
              show SW _ _ _ _ _ _ _ (.int 1 :: _) _ _ _
              refine sw_if_eq (pc' := 49) (tgt := 51) rfl dX5_walk_46 (by decide +kernel) (fun c46 => ?_) (fun c46 => ?_)
              · exact absurd c46 (by decide +kernel)
              · refine sw_iconst (pc' := 50) (v := 0) rfl dX5_walk_49 (by decide +kernel) ?_
                refine sw_ret (v := some _) ⟨dX5_walk_50, _, rfl, rfl⟩ ?_
                rw [opWalk, onWk_k hk, onSh_x qj1]
                exact pm_x tc_1 p43M p43A p43F (Nat.le_refl _)
            · refine sw_iconst (pc' := 39) (v := 1) rfl dX5_walk_38 (by decide +kernel) ?_
              refine sw_goto (tgt := 43) dX5_walk_39 (by decide +kernel) ?_
              refine sw_V (M' := MX5_isStopped_) (d' := d - 1) (bc' := 0) (bs' := 0) (ci := 6) (as := [_, _]) dX5_walk_43 w_1215 ok_X5_isStopped_ (q_isStopped2 (a := true) (b := true) hM hA (by omega)) hM.ob rfl (by omega) (Nat.le_of_ble_eq_true rfl) (Nat.zero_le _) (Nat.zero_le _) (fun E h' n' _ z => rp_x z) (rp_k (fun p43 p43ρ p43τ p43M p43A p43F => ?_))
              obtain ⟨Gp43, hGp43, eGp43⟩ := p43M.out
              show SW _ _ _ _ _ _ _ (.int 1 :: _) _ _ _
              refine sw_if_eq (pc' := 49) (tgt := 51) rfl dX5_walk_46 (by decide +kernel) (fun c46 => ?_) (fun c46 => ?_)
              · exact absurd c46 (by decide +kernel)
              · refine sw_iconst (pc' := 50) (v := 0) rfl dX5_walk_49 (by decide +kernel) ?_
                refine sw_ret (v := some _) ⟨dX5_walk_50, _, rfl, rfl⟩ ?_
                rw [opWalk, onWk_k hk, onSh_x qj1]
                exact pm_x tc_1 p43M p43A p43F (Nat.le_refl _)
  have hcj := hI.1 j hj
  rcases Classical.em (y < 0 ∨ 2 < y) with qy | qy
  · refine sw_aload_n (pc' := 1) rfl dX5_walk_0 rfl ?_
    refine sw_iload_n (pc' := 2) rfl dX5_walk_1 rfl ?_
    refine sw_S (M' := MX5_isNoWalk) (d' := d - 1) (bc' := 0) (bs' := 0) (as := [_]) dX5_walk_2 w_1306 ok_X5_isNoWalk (q_isNoWalk (by omega)) (by omega) (Nat.le_of_ble_eq_true rfl) (Nat.zero_le _) (Nat.zero_le _) (fun E h' n' _ z => det_x z) (det_k ?_)
    rw [show inB (nI k) 0 5 = true from inB_k (N := 5) (by omega) (by decide +kernel)]
    show SW _ _ _ _ _ _ _ (.int 0 :: _) _ _ _
    refine sw_if_ne (pc' := 8) (tgt := 15) rfl dX5_walk_5 (by decide +kernel) (fun c5 => ?_) (fun c5 => ?_)
    · exact absurd c5 (by decide +kernel)
    · refine sw_iload_n (pc' := 9) rfl dX5_walk_8 rfl ?_
      refine sw_S (M' := MX5_isNone) (d' := d - 1) (bc' := 0) (bs' := 0) (as := [_]) dX5_walk_9 w_1165 ok_X5_isNone (q_isNone (by omega)) (by omega) (Nat.le_of_ble_eq_true rfl) (Nat.zero_le _) (Nat.zero_le _) (fun E h' n' _ z => det_x z) (det_k ?_)
      rw [show inB (nI j) 0 10 = true from inB_k (N := 10) (by omega) (by decide +kernel)]
      show SW _ _ _ _ _ _ _ (.int 0 :: _) _ _ _
      refine sw_if_eq (pc' := 15) (tgt := 19) rfl dX5_walk_12 (by decide +kernel) (fun c12 => ?_) (fun c12 => ?_)
      · refine sw_iconst (pc' := 20) (v := 0) rfl dX5_walk_19 (by decide +kernel) ?_
        refine sw_iload_n (pc' := 21) rfl dX5_walk_20 rfl ?_
        refine sw_iconst (pc' := 22) (v := 0) rfl dX5_walk_21 (by decide +kernel) ?_
        refine sw_iconst (pc' := 23) (v := 2) rfl dX5_walk_22 (by decide +kernel) ?_
        refine sw_S (M' := MX5_isIn) (d' := d - 1) (bc' := 0) (bs' := 0) (as := [_, _, _]) dX5_walk_23 w_1168 ok_X5_isIn (q_isIn) (by omega) (Nat.le_of_ble_eq_true rfl) (Nat.zero_le _) (Nat.zero_le _) (fun E h' n' _ z => det_x z) (det_k ?_)
        rw [show inB y 0 2 = false from inB_x qy]
        show SW _ _ _ _ _ _ _ (.int 0 :: _) _ _ _
        refine sw_if_eq (pc' := 29) (tgt := 38) rfl dX5_walk_26 (by decide +kernel) (fun c26 => ?_) (fun c26 => ?_)
        · refine sw_iconst (pc' := 39) (v := 1) rfl dX5_walk_38 (by decide +kernel) ?_
          refine sw_goto (tgt := 43) dX5_walk_39 (by decide +kernel) ?_
          refine sw_V (M' := MX5_isStopped_) (d' := d - 1) (bc' := 0) (bs' := 0) (ci := 6) (as := [_, _]) dX5_walk_43 w_1215 ok_X5_isStopped_ (q_isStopped2 (a := false) (b := true) hM hA (by omega)) hM.ob rfl (by omega) (Nat.le_of_ble_eq_true rfl) (Nat.zero_le _) (Nat.zero_le _) (fun E h' n' _ z => rp_x z) (rp_k (fun p43 p43ρ p43τ p43M p43A p43F => ?_))
          obtain ⟨Gp43, hGp43, eGp43⟩ := p43M.out
          show SW _ _ _ _ _ _ _ (.int 1 :: _) _ _ _
          refine sw_if_eq (pc' := 49) (tgt := 51) rfl dX5_walk_46 (by decide +kernel) (fun c46 => ?_) (fun c46 => ?_)
          · exact absurd c46 (by decide +kernel)
          · refine sw_iconst (pc' := 50) (v := 0) rfl dX5_walk_49 (by decide +kernel) ?_
            refine sw_ret (v := some _) ⟨dX5_walk_50, _, rfl, rfl⟩ ?_
            rw [opWalk, onWk_k hk, onSh_k hj, if_pos qy]
            exact pm_x (tc_2 sAI) p43M p43A p43F (Nat.le_refl _)
        · exact absurd c26 (by decide +kernel)
      · exact absurd c12 (by decide +kernel)
  rcases Classical.em (y = 2 ∧ ¬ nI j = 0) with q2 | q2
  · refine sw_aload_n (pc' := 1) rfl dX5_walk_0 rfl ?_
    refine sw_iload_n (pc' := 2) rfl dX5_walk_1 rfl ?_
    refine sw_S (M' := MX5_isNoWalk) (d' := d - 1) (bc' := 0) (bs' := 0) (as := [_]) dX5_walk_2 w_1306 ok_X5_isNoWalk (q_isNoWalk (by omega)) (by omega) (Nat.le_of_ble_eq_true rfl) (Nat.zero_le _) (Nat.zero_le _) (fun E h' n' _ z => det_x z) (det_k ?_)
    rw [show inB (nI k) 0 5 = true from inB_k (N := 5) (by omega) (by decide +kernel)]
    show SW _ _ _ _ _ _ _ (.int 0 :: _) _ _ _
    refine sw_if_ne (pc' := 8) (tgt := 15) rfl dX5_walk_5 (by decide +kernel) (fun c5 => ?_) (fun c5 => ?_)
    · exact absurd c5 (by decide +kernel)
    · refine sw_iload_n (pc' := 9) rfl dX5_walk_8 rfl ?_
      refine sw_S (M' := MX5_isNone) (d' := d - 1) (bc' := 0) (bs' := 0) (as := [_]) dX5_walk_9 w_1165 ok_X5_isNone (q_isNone (by omega)) (by omega) (Nat.le_of_ble_eq_true rfl) (Nat.zero_le _) (Nat.zero_le _) (fun E h' n' _ z => det_x z) (det_k ?_)
      rw [show inB (nI j) 0 10 = true from inB_k (N := 10) (by omega) (by decide +kernel)]
      show SW _ _ _ _ _ _ _ (.int 0 :: _) _ _ _
      refine sw_if_eq (pc' := 15) (tgt := 19) rfl dX5_walk_12 (by decide +kernel) (fun c12 => ?_) (fun c12 => ?_)
      · refine sw_iconst (pc' := 20) (v := 0) rfl dX5_walk_19 (by decide +kernel) ?_
        refine sw_iload_n (pc' := 21) rfl dX5_walk_20 rfl ?_
        refine sw_iconst (pc' := 22) (v := 0) rfl dX5_walk_21 (by decide +kernel) ?_
        refine sw_iconst (pc' := 23) (v := 2) rfl dX5_walk_22 (by decide +kernel) ?_
        refine sw_S (M' := MX5_isIn) (d' := d - 1) (bc' := 0) (bs' := 0) (as := [_, _, _]) dX5_walk_23 w_1168 ok_X5_isIn (q_isIn) (by omega) (Nat.le_of_ble_eq_true rfl) (Nat.zero_le _) (Nat.zero_le _) (fun E h' n' _ z => det_x z) (det_k ?_)
        rw [show inB y 0 2 = true from inB_n qy]
        show SW _ _ _ _ _ _ _ (.int 1 :: _) _ _ _
        refine sw_if_eq (pc' := 29) (tgt := 38) rfl dX5_walk_26 (by decide +kernel) (fun c26 => ?_) (fun c26 => ?_)
        · exact absurd c26 (by decide +kernel)
        · refine sw_iload_n (pc' := 30) rfl dX5_walk_29 rfl ?_
          refine sw_iconst (pc' := 31) (v := 2) rfl dX5_walk_30 (by decide +kernel) ?_
          refine sw_icmp_ne (pc' := 34) (tgt := 42) rfl dX5_walk_31 (by decide +kernel) (fun c31 => ?_) (fun c31 => ?_)
          · exact absurd q2.1 c31
          · refine sw_iload_n (pc' := 35) rfl dX5_walk_34 rfl ?_
            refine sw_if_eq (pc' := 38) (tgt := 42) rfl dX5_walk_35 (by decide +kernel) (fun c35 => ?_) (fun c35 => ?_)
            · exact absurd c35 q2.2
            · refine sw_iconst (pc' := 39) (v := 1) rfl dX5_walk_38 (by decide +kernel) ?_
              refine sw_goto (tgt := 43) dX5_walk_39 (by decide +kernel) ?_
              refine sw_V (M' := MX5_isStopped_) (d' := d - 1) (bc' := 0) (bs' := 0) (ci := 6) (as := [_, _]) dX5_walk_43 w_1215 ok_X5_isStopped_ (q_isStopped2 (a := false) (b := true) hM hA (by omega)) hM.ob rfl (by omega) (Nat.le_of_ble_eq_true rfl) (Nat.zero_le _) (Nat.zero_le _) (fun E h' n' _ z => rp_x z) (rp_k (fun p43 p43ρ p43τ p43M p43A p43F => ?_))
              obtain ⟨Gp43, hGp43, eGp43⟩ := p43M.out
              show SW _ _ _ _ _ _ _ (.int 1 :: _) _ _ _
              refine sw_if_eq (pc' := 49) (tgt := 51) rfl dX5_walk_46 (by decide +kernel) (fun c46 => ?_) (fun c46 => ?_)
              · exact absurd c46 (by decide +kernel)
              · refine sw_iconst (pc' := 50) (v := 0) rfl dX5_walk_49 (by decide +kernel) ?_
                refine sw_ret (v := some _) ⟨dX5_walk_50, _, rfl, rfl⟩ ?_
                rw [opWalk, onWk_k hk, onSh_k hj, if_neg qy, if_pos q2]
                exact pm_x (tc_2 sAI) p43M p43A p43F (Nat.le_refl _)
      · exact absurd c12 (by decide +kernel)
  refine sw_aload_n (pc' := 1) rfl dX5_walk_0 rfl ?_
  refine sw_iload_n (pc' := 2) rfl dX5_walk_1 rfl ?_
  refine sw_S (M' := MX5_isNoWalk) (d' := d - 1) (bc' := 0) (bs' := 0) (as := [_]) dX5_walk_2 w_1306 ok_X5_isNoWalk (q_isNoWalk (by omega)) (by omega) (Nat.le_of_ble_eq_true rfl) (Nat.zero_le _) (Nat.zero_le _) (fun E h' n' _ z => det_x z) (det_k ?_)
  rw [show inB (nI k) 0 5 = true from inB_k (N := 5) (by omega) (by decide +kernel)]
  show SW _ _ _ _ _ _ _ (.int 0 :: _) _ _ _
  refine sw_if_ne (pc' := 8) (tgt := 15) rfl dX5_walk_5 (by decide +kernel) (fun c5 => ?_) (fun c5 => ?_)
  · exact absurd c5 (by decide +kernel)
  · refine sw_iload_n (pc' := 9) rfl dX5_walk_8 rfl ?_
    refine sw_S (M' := MX5_isNone) (d' := d - 1) (bc' := 0) (bs' := 0) (as := [_]) dX5_walk_9 w_1165 ok_X5_isNone (q_isNone (by omega)) (by omega) (Nat.le_of_ble_eq_true rfl) (Nat.zero_le _) (Nat.zero_le _) (fun E h' n' _ z => det_x z) (det_k ?_)
    rw [show inB (nI j) 0 10 = true from inB_k (N := 10) (by omega) (by decide +kernel)]
    show SW _ _ _ _ _ _ _ (.int 0 :: _) _ _ _
    refine sw_if_eq (pc' := 15) (tgt := 19) rfl dX5_walk_12 (by decide +kernel) (fun c12 => ?_) (fun c12 => ?_)
    · refine sw_iconst (pc' := 20) (v := 0) rfl dX5_walk_19 (by decide +kernel) ?_
      refine sw_iload_n (pc' := 21) rfl dX5_walk_20 rfl ?_
      refine sw_iconst (pc' := 22) (v := 0) rfl dX5_walk_21 (by decide +kernel) ?_
      refine sw_iconst (pc' := 23) (v := 2) rfl dX5_walk_22 (by decide +kernel) ?_
      refine sw_S (M' := MX5_isIn) (d' := d - 1) (bc' := 0) (bs' := 0) (as := [_, _, _]) dX5_walk_23 w_1168 ok_X5_isIn (q_isIn) (by omega) (Nat.le_of_ble_eq_true rfl) (Nat.zero_le _) (Nat.zero_le _) (fun E h' n' _ z => det_x z) (det_k ?_)
      rw [show inB y 0 2 = true from inB_n qy]
      show SW _ _ _ _ _ _ _ (.int 1 :: _) _ _ _
      refine sw_if_eq (pc' := 29) (tgt := 38) rfl dX5_walk_26 (by decide +kernel) (fun c26 => ?_) (fun c26 => ?_)
      · exact absurd c26 (by decide +kernel)
      · refine sw_iload_n (pc' := 30) rfl dX5_walk_29 rfl ?_
        refine sw_iconst (pc' := 31) (v := 2) rfl dX5_walk_30 (by decide +kernel) ?_
        refine sw_icmp_ne (pc' := 34) (tgt := 42) rfl dX5_walk_31 (by decide +kernel) (fun c31 => ?_) (fun c31 => ?_)
        · refine sw_iconst (pc' := 43) (v := 0) rfl dX5_walk_42 (by decide +kernel) ?_
          refine sw_V (M' := MX5_isStopped_) (d' := d - 1) (bc' := 0) (bs' := 0) (ci := 6) (as := [_, _]) dX5_walk_43 w_1215 ok_X5_isStopped_ (q_isStopped2 (a := false) (b := false) hM hA (by omega)) hM.ob rfl (by omega) (Nat.le_of_ble_eq_true rfl) (Nat.zero_le _) (Nat.zero_le _) (fun E h' n' _ z => rp_x z) (rp_k (fun p43 p43ρ p43τ p43M p43A p43F => ?_))
          obtain ⟨Gp43, hGp43, eGp43⟩ := p43M.out
          show SW _ _ _ _ _ _ _ (.int 0 :: _) _ _ _
          refine sw_if_eq (pc' := 49) (tgt := 51) rfl dX5_walk_46 (by decide +kernel) (fun c46 => ?_) (fun c46 => ?_)
          · refine sw_aload_n (pc' := 52) rfl dX5_walk_51 rfl ?_
            refine sw_getf (ci := 6) (k := 6) (pc' := 55) rfl dX5_walk_52 (by decide +kernel) w_1119 p43M.ob rfl ?_
            refine sw_iload_n (pc' := 56) rfl dX5_walk_55 rfl ?_
            refine sw_iload_n (pc' := 57) rfl dX5_walk_56 rfl ?_
            refine sw_iast (j := k) (pc' := 58) rfl dX5_walk_57 p43M.sh (by decide +kernel) rfl (by omega) (by decide +kernel) ?_
            refine sw_nm (fun g1 eg1 => ?_)
            have zg1 := (congrFun eg1 150).trans (up_s (h := p43) (i := 150))
            refine sw_aload_n (pc' := 59) rfl dX5_walk_58 rfl ?_
            refine sw_getf (ci := 6) (k := 7) (pc' := 62) rfl dX5_walk_59 (by decide +kernel) w_1120 (((congrFun eg1 135).trans (up_n (by omega))).trans p43M.ob) rfl ?_
            refine sw_iload_n (pc' := 63) rfl dX5_walk_62 rfl ?_
            refine sw_iload_n (pc' := 64) rfl dX5_walk_63 rfl ?_
            refine sw_iast (j := k) (pc' := 65) rfl dX5_walk_64 (((congrFun eg1 151).trans (up_n (by omega))).trans p43M.hw) (by decide +kernel) rfl (by omega) (by decide +kernel) ?_
            refine sw_nm (fun g2 eg2 => ?_)
            have zg2 := (congrFun eg2 151).trans (up_s (h := g1) (i := 151))
            refine sw_aload_n (pc' := 66) rfl dX5_walk_65 rfl ?_
            refine sw_getf (ci := 6) (k := 8) (pc' := 69) rfl dX5_walk_66 (by decide +kernel) w_1121 (((congrFun eg2 135).trans (up_n (by omega))).trans (((congrFun eg1 135).trans (up_n (by omega))).trans p43M.ob)) rfl ?_
            refine sw_iload_n (pc' := 70) rfl dX5_walk_69 rfl ?_
            refine sw_iconst (pc' := 71) (v := 0) rfl dX5_walk_70 (by decide +kernel) ?_
            refine sw_iast (j := k) (pc' := 72) rfl dX5_walk_71 (((congrFun eg2 152).trans (up_n (by omega))).trans (((congrFun eg1 152).trans (up_n (by omega))).trans p43M.gi)) (by decide +kernel) rfl (by omega) (by decide +kernel) ?_
            refine sw_nm (fun g3 eg3 => ?_)
            have zg3 := (congrFun eg3 152).trans (up_s (h := g2) (i := 152))
            refine sw_aload_n (pc' := 73) rfl dX5_walk_72 rfl ?_
            refine sw_getf (ci := 6) (k := 10) (pc' := 76) rfl dX5_walk_73 (by decide +kernel) w_1123 (((congrFun eg3 135).trans (up_n (by omega))).trans (((congrFun eg2 135).trans (up_n (by omega))).trans (((congrFun eg1 135).trans (up_n (by omega))).trans p43M.ob))) rfl ?_
            refine sw_iload_n (pc' := 77) rfl dX5_walk_76 rfl ?_
            refine sw_iconst (pc' := 78) (v := 0) rfl dX5_walk_77 (by decide +kernel) ?_
            refine sw_iast (j := k) (pc' := 79) rfl dX5_walk_78 (((congrFun eg3 154).trans (up_n (by omega))).trans (((congrFun eg2 154).trans (up_n (by omega))).trans (((congrFun eg1 154).trans (up_n (by omega))).trans p43M.pl))) (by decide +kernel) rfl (by omega) (by decide +kernel) ?_
            refine sw_nm (fun g4 eg4 => ?_)
            have zg4 := (congrFun eg4 154).trans (up_s (h := g3) (i := 154))
            refine sw_aload_n (pc' := 80) rfl dX5_walk_79 rfl ?_
            refine sw_getf (ci := 6) (k := 11) (pc' := 83) rfl dX5_walk_80 (by decide +kernel) w_1124 (((congrFun eg4 135).trans (up_n (by omega))).trans (((congrFun eg3 135).trans (up_n (by omega))).trans (((congrFun eg2 135).trans (up_n (by omega))).trans (((congrFun eg1 135).trans (up_n (by omega))).trans p43M.ob)))) rfl ?_
            refine sw_iload_n (pc' := 84) rfl dX5_walk_83 rfl ?_
            refine sw_iconst (pc' := 85) (v := 0) rfl dX5_walk_84 (by decide +kernel) ?_
            refine sw_zast (j := k) (pc' := 86) rfl dX5_walk_85 (((congrFun eg4 155).trans (up_n (by omega))).trans (((congrFun eg3 155).trans (up_n (by omega))).trans (((congrFun eg2 155).trans (up_n (by omega))).trans (((congrFun eg1 155).trans (up_n (by omega))).trans p43M.ct)))) (by decide +kernel) rfl (by omega) (by decide +kernel) ?_
            refine sw_nm (fun g5 eg5 => ?_)
            have zg5 := (congrFun eg5 155).trans (up_s (h := g4) (i := 155))
            refine sw_aload_n (pc' := 87) rfl dX5_walk_86 rfl ?_
            refine sw_getf (ci := 6) (k := 9) (pc' := 90) rfl dX5_walk_87 (by decide +kernel) w_1122 (((congrFun eg5 135).trans (up_n (by omega))).trans (((congrFun eg4 135).trans (up_n (by omega))).trans (((congrFun eg3 135).trans (up_n (by omega))).trans (((congrFun eg2 135).trans (up_n (by omega))).trans (((congrFun eg1 135).trans (up_n (by omega))).trans p43M.ob))))) rfl ?_
            refine sw_iload_n (pc' := 91) rfl dX5_walk_90 rfl ?_
            refine sw_aload_n (pc' := 92) rfl dX5_walk_91 rfl ?_
            refine sw_getf (ci := 6) (k := 5) (pc' := 95) rfl dX5_walk_92 (by decide +kernel) w_1118 (((congrFun eg5 135).trans (up_n (by omega))).trans (((congrFun eg4 135).trans (up_n (by omega))).trans (((congrFun eg3 135).trans (up_n (by omega))).trans (((congrFun eg2 135).trans (up_n (by omega))).trans (((congrFun eg1 135).trans (up_n (by omega))).trans p43M.ob))))) rfl ?_
            refine sw_iload_n (pc' := 96) rfl dX5_walk_95 rfl ?_
            refine sw_iald (j := j) (pc' := 97) rfl dX5_walk_96 (((congrFun eg5 149).trans (up_n (by omega))).trans (((congrFun eg4 149).trans (up_n (by omega))).trans (((congrFun eg3 149).trans (up_n (by omega))).trans (((congrFun eg2 149).trans (up_n (by omega))).trans (((congrFun eg1 149).trans (up_n (by omega))).trans p43M.sf))))) rfl (by omega) (by decide +kernel) ?_
            refine sw_iast (j := k) (pc' := 98) rfl dX5_walk_97 (((congrFun eg5 153).trans (up_n (by omega))).trans (((congrFun eg4 153).trans (up_n (by omega))).trans (((congrFun eg3 153).trans (up_n (by omega))).trans (((congrFun eg2 153).trans (up_n (by omega))).trans (((congrFun eg1 153).trans (up_n (by omega))).trans p43M.st))))) (by decide +kernel) rfl (by omega) (by decide +kernel) ?_
            refine sw_nm (fun g6 eg6 => ?_)
            have zg6 := (congrFun eg6 153).trans (up_s (h := g5) (i := 153))
            refine sw_aload_n (pc' := 99) rfl dX5_walk_98 rfl ?_
            refine sw_getf (ci := 6) (k := 4) (pc' := 102) rfl dX5_walk_99 (by decide +kernel) w_1117 (((congrFun eg6 135).trans (up_n (by omega))).trans (((congrFun eg5 135).trans (up_n (by omega))).trans (((congrFun eg4 135).trans (up_n (by omega))).trans (((congrFun eg3 135).trans (up_n (by omega))).trans (((congrFun eg2 135).trans (up_n (by omega))).trans (((congrFun eg1 135).trans (up_n (by omega))).trans p43M.ob)))))) rfl ?_
            refine sw_iload_n (pc' := 103) rfl dX5_walk_102 rfl ?_
            refine sw_iald (j := j) (pc' := 104) rfl dX5_walk_103 (((congrFun eg6 148).trans (up_n (by omega))).trans (((congrFun eg5 148).trans (up_n (by omega))).trans (((congrFun eg4 148).trans (up_n (by omega))).trans (((congrFun eg3 148).trans (up_n (by omega))).trans (((congrFun eg2 148).trans (up_n (by omega))).trans (((congrFun eg1 148).trans (up_n (by omega))).trans p43M.sz)))))) rfl (by omega) (by decide +kernel) ?_
            refine sw_ret (v := some _) ⟨dX5_walk_104, _, rfl, rfl⟩ ?_
            rw [opWalk, onWk_k hk, onSh_k hj, if_neg qy, if_neg q2]
            exact pm_k (p43M.walkU hk (((congrFun eg6 150).trans (up_n (by omega))).trans (((congrFun eg5 150).trans (up_n (by omega))).trans (((congrFun eg4 150).trans (up_n (by omega))).trans (((congrFun eg3 150).trans (up_n (by omega))).trans (((congrFun eg2 150).trans (up_n (by omega))).trans zg1))))) (((congrFun eg6 151).trans (up_n (by omega))).trans (((congrFun eg5 151).trans (up_n (by omega))).trans (((congrFun eg4 151).trans (up_n (by omega))).trans (((congrFun eg3 151).trans (up_n (by omega))).trans zg2)))) (((congrFun eg6 152).trans (up_n (by omega))).trans (((congrFun eg5 152).trans (up_n (by omega))).trans (((congrFun eg4 152).trans (up_n (by omega))).trans zg3))) zg6 (((congrFun eg6 154).trans (up_n (by omega))).trans (((congrFun eg5 154).trans (up_n (by omega))).trans zg4)) (((congrFun eg6 155).trans (up_n (by omega))).trans zg5) (fun i h1 => (congrFun eg6 i).trans ((up_n (by omega)).trans ((congrFun eg5 i).trans ((up_n (by omega)).trans ((congrFun eg4 i).trans ((up_n (by omega)).trans ((congrFun eg3 i).trans ((up_n (by omega)).trans ((congrFun eg2 i).trans ((up_n (by omega)).trans ((congrFun eg1 i).trans ((up_n (by omega)).trans (rfl)))))))))))))) (p43A.walkU) (p43F.tr (FrM.of1 (fun i q => (congrFun eg6 i).trans ((up_n (by omega)).trans ((congrFun eg5 i).trans ((up_n (by omega)).trans ((congrFun eg4 i).trans ((up_n (by omega)).trans ((congrFun eg3 i).trans ((up_n (by omega)).trans ((congrFun eg2 i).trans ((up_n (by omega)).trans ((congrFun eg1 i).trans ((up_n (by omega)).trans (rfl)))))))))))))) (Nat.le_refl _)) (Nat.le_refl _)
          · exact absurd c46 (by decide +kernel)
        · refine sw_iload_n (pc' := 35) rfl dX5_walk_34 rfl ?_
          refine sw_if_eq (pc' := 38) (tgt := 42) rfl dX5_walk_35 (by decide +kernel) (fun c35 => ?_) (fun c35 => ?_)
          · refine sw_iconst (pc' := 43) (v := 0) rfl dX5_walk_42 (by decide +kernel) ?_
            refine sw_V (M' := MX5_isStopped_) (d' := d - 1) (bc' := 0) (bs' := 0) (ci := 6) (as := [_, _]) dX5_walk_43 w_1215 ok_X5_isStopped_ (q_isStopped2 (a := false) (b := false) hM hA (by omega)) hM.ob rfl (by omega) (Nat.le_of_ble_eq_true rfl) (Nat.zero_le _) (Nat.zero_le _) (fun E h' n' _ z => rp_x z) (rp_k (fun p43 p43ρ p43τ p43M p43A p43F => ?_))
            obtain ⟨Gp43, hGp43, eGp43⟩ := p43M.out
            show SW _ _ _ _ _ _ _ (.int 0 :: _) _ _ _
            refine sw_if_eq (pc' := 49) (tgt := 51) rfl dX5_walk_46 (by decide +kernel) (fun c46 => ?_) (fun c46 => ?_)
            · refine sw_aload_n (pc' := 52) rfl dX5_walk_51 rfl ?_
              refine sw_getf (ci := 6) (k := 6) (pc' := 55) rfl dX5_walk_52 (by decide +kernel) w_1119 p43M.ob rfl ?_
              refine sw_iload_n (pc' := 56) rfl dX5_walk_55 rfl ?_
              refine sw_iload_n (pc' := 57) rfl dX5_walk_56 rfl ?_
              refine sw_iast (j := k) (pc' := 58) rfl dX5_walk_57 p43M.sh (by decide +kernel) rfl (by omega) (by decide +kernel) ?_
              refine sw_nm (fun g7 eg7 => ?_)
              have zg7 := (congrFun eg7 150).trans (up_s (h := p43) (i := 150))
              refine sw_aload_n (pc' := 59) rfl dX5_walk_58 rfl ?_
              refine sw_getf (ci := 6) (k := 7) (pc' := 62) rfl dX5_walk_59 (by decide +kernel) w_1120 (((congrFun eg7 135).trans (up_n (by omega))).trans p43M.ob) rfl ?_
              refine sw_iload_n (pc' := 63) rfl dX5_walk_62 rfl ?_
              refine sw_iload_n (pc' := 64) rfl dX5_walk_63 rfl ?_
              refine sw_iast (j := k) (pc' := 65) rfl dX5_walk_64 (((congrFun eg7 151).trans (up_n (by omega))).trans p43M.hw) (by decide +kernel) rfl (by omega) (by decide +kernel) ?_
              refine sw_nm (fun g8 eg8 => ?_)
              have zg8 := (congrFun eg8 151).trans (up_s (h := g7) (i := 151))
              refine sw_aload_n (pc' := 66) rfl dX5_walk_65 rfl ?_
              refine sw_getf (ci := 6) (k := 8) (pc' := 69) rfl dX5_walk_66 (by decide +kernel) w_1121 (((congrFun eg8 135).trans (up_n (by omega))).trans (((congrFun eg7 135).trans (up_n (by omega))).trans p43M.ob)) rfl ?_
              refine sw_iload_n (pc' := 70) rfl dX5_walk_69 rfl ?_
              refine sw_iconst (pc' := 71) (v := 0) rfl dX5_walk_70 (by decide +kernel) ?_
              refine sw_iast (j := k) (pc' := 72) rfl dX5_walk_71 (((congrFun eg8 152).trans (up_n (by omega))).trans (((congrFun eg7 152).trans (up_n (by omega))).trans p43M.gi)) (by decide +kernel) rfl (by omega) (by decide +kernel) ?_
              refine sw_nm (fun g9 eg9 => ?_)
              have zg9 := (congrFun eg9 152).trans (up_s (h := g8) (i := 152))
              refine sw_aload_n (pc' := 73) rfl dX5_walk_72 rfl ?_
              refine sw_getf (ci := 6) (k := 10) (pc' := 76) rfl dX5_walk_73 (by decide +kernel) w_1123 (((congrFun eg9 135).trans (up_n (by omega))).trans (((congrFun eg8 135).trans (up_n (by omega))).trans (((congrFun eg7 135).trans (up_n (by omega))).trans p43M.ob))) rfl ?_
              refine sw_iload_n (pc' := 77) rfl dX5_walk_76 rfl ?_
              refine sw_iconst (pc' := 78) (v := 0) rfl dX5_walk_77 (by decide +kernel) ?_
              refine sw_iast (j := k) (pc' := 79) rfl dX5_walk_78 (((congrFun eg9 154).trans (up_n (by omega))).trans (((congrFun eg8 154).trans (up_n (by omega))).trans (((congrFun eg7 154).trans (up_n (by omega))).trans p43M.pl))) (by decide +kernel) rfl (by omega) (by decide +kernel) ?_
              refine sw_nm (fun g10 eg10 => ?_)
              have zg10 := (congrFun eg10 154).trans (up_s (h := g9) (i := 154))
              refine sw_aload_n (pc' := 80) rfl dX5_walk_79 rfl ?_
              refine sw_getf (ci := 6) (k := 11) (pc' := 83) rfl dX5_walk_80 (by decide +kernel) w_1124 (((congrFun eg10 135).trans (up_n (by omega))).trans (((congrFun eg9 135).trans (up_n (by omega))).trans (((congrFun eg8 135).trans (up_n (by omega))).trans (((congrFun eg7 135).trans (up_n (by omega))).trans p43M.ob)))) rfl ?_
              refine sw_iload_n (pc' := 84) rfl dX5_walk_83 rfl ?_
              refine sw_iconst (pc' := 85) (v := 0) rfl dX5_walk_84 (by decide +kernel) ?_
              refine sw_zast (j := k) (pc' := 86) rfl dX5_walk_85 (((congrFun eg10 155).trans (up_n (by omega))).trans (((congrFun eg9 155).trans (up_n (by omega))).trans (((congrFun eg8 155).trans (up_n (by omega))).trans (((congrFun eg7 155).trans (up_n (by omega))).trans p43M.ct)))) (by decide +kernel) rfl (by omega) (by decide +kernel) ?_
              refine sw_nm (fun g11 eg11 => ?_)
              have zg11 := (congrFun eg11 155).trans (up_s (h := g10) (i := 155))
              refine sw_aload_n (pc' := 87) rfl dX5_walk_86 rfl ?_
              refine sw_getf (ci := 6) (k := 9) (pc' := 90) rfl dX5_walk_87 (by decide +kernel) w_1122 (((congrFun eg11 135).trans (up_n (by omega))).trans (((congrFun eg10 135).trans (up_n (by omega))).trans (((congrFun eg9 135).trans (up_n (by omega))).trans (((congrFun eg8 135).trans (up_n (by omega))).trans (((congrFun eg7 135).trans (up_n (by omega))).trans p43M.ob))))) rfl ?_
              refine sw_iload_n (pc' := 91) rfl dX5_walk_90 rfl ?_
              refine sw_aload_n (pc' := 92) rfl dX5_walk_91 rfl ?_
              refine sw_getf (ci := 6) (k := 5) (pc' := 95) rfl dX5_walk_92 (by decide +kernel) w_1118 (((congrFun eg11 135).trans (up_n (by omega))).trans (((congrFun eg10 135).trans (up_n (by omega))).trans (((congrFun eg9 135).trans (up_n (by omega))).trans (((congrFun eg8 135).trans (up_n (by omega))).trans (((congrFun eg7 135).trans (up_n (by omega))).trans p43M.ob))))) rfl ?_
              refine sw_iload_n (pc' := 96) rfl dX5_walk_95 rfl ?_
              refine sw_iald (j := j) (pc' := 97) rfl dX5_walk_96 (((congrFun eg11 149).trans (up_n (by omega))).trans (((congrFun eg10 149).trans (up_n (by omega))).trans (((congrFun eg9 149).trans (up_n (by omega))).trans (((congrFun eg8 149).trans (up_n (by omega))).trans (((congrFun eg7 149).trans (up_n (by omega))).trans p43M.sf))))) rfl (by omega) (by decide +kernel) ?_
              refine sw_iast (j := k) (pc' := 98) rfl dX5_walk_97 (((congrFun eg11 153).trans (up_n (by omega))).trans (((congrFun eg10 153).trans (up_n (by omega))).trans (((congrFun eg9 153).trans (up_n (by omega))).trans (((congrFun eg8 153).trans (up_n (by omega))).trans (((congrFun eg7 153).trans (up_n (by omega))).trans p43M.st))))) (by decide +kernel) rfl (by omega) (by decide +kernel) ?_
              refine sw_nm (fun g12 eg12 => ?_)
              have zg12 := (congrFun eg12 153).trans (up_s (h := g11) (i := 153))
              refine sw_aload_n (pc' := 99) rfl dX5_walk_98 rfl ?_
              refine sw_getf (ci := 6) (k := 4) (pc' := 102) rfl dX5_walk_99 (by decide +kernel) w_1117 (((congrFun eg12 135).trans (up_n (by omega))).trans (((congrFun eg11 135).trans (up_n (by omega))).trans (((congrFun eg10 135).trans (up_n (by omega))).trans (((congrFun eg9 135).trans (up_n (by omega))).trans (((congrFun eg8 135).trans (up_n (by omega))).trans (((congrFun eg7 135).trans (up_n (by omega))).trans p43M.ob)))))) rfl ?_
              refine sw_iload_n (pc' := 103) rfl dX5_walk_102 rfl ?_
              refine sw_iald (j := j) (pc' := 104) rfl dX5_walk_103 (((congrFun eg12 148).trans (up_n (by omega))).trans (((congrFun eg11 148).trans (up_n (by omega))).trans (((congrFun eg10 148).trans (up_n (by omega))).trans (((congrFun eg9 148).trans (up_n (by omega))).trans (((congrFun eg8 148).trans (up_n (by omega))).trans (((congrFun eg7 148).trans (up_n (by omega))).trans p43M.sz)))))) rfl (by omega) (by decide +kernel) ?_
              refine sw_ret (v := some _) ⟨dX5_walk_104, _, rfl, rfl⟩ ?_
              rw [opWalk, onWk_k hk, onSh_k hj, if_neg qy, if_neg q2]
              exact pm_k (p43M.walkU hk (((congrFun eg12 150).trans (up_n (by omega))).trans (((congrFun eg11 150).trans (up_n (by omega))).trans (((congrFun eg10 150).trans (up_n (by omega))).trans (((congrFun eg9 150).trans (up_n (by omega))).trans (((congrFun eg8 150).trans (up_n (by omega))).trans zg7))))) (((congrFun eg12 151).trans (up_n (by omega))).trans (((congrFun eg11 151).trans (up_n (by omega))).trans (((congrFun eg10 151).trans (up_n (by omega))).trans (((congrFun eg9 151).trans (up_n (by omega))).trans zg8)))) (((congrFun eg12 152).trans (up_n (by omega))).trans (((congrFun eg11 152).trans (up_n (by omega))).trans (((congrFun eg10 152).trans (up_n (by omega))).trans zg9))) zg12 (((congrFun eg12 154).trans (up_n (by omega))).trans (((congrFun eg11 154).trans (up_n (by omega))).trans zg10)) (((congrFun eg12 155).trans (up_n (by omega))).trans zg11) (fun i h1 => (congrFun eg12 i).trans ((up_n (by omega)).trans ((congrFun eg11 i).trans ((up_n (by omega)).trans ((congrFun eg10 i).trans ((up_n (by omega)).trans ((congrFun eg9 i).trans ((up_n (by omega)).trans ((congrFun eg8 i).trans ((up_n (by omega)).trans ((congrFun eg7 i).trans ((up_n (by omega)).trans (rfl)))))))))))))) (p43A.walkU) (p43F.tr (FrM.of1 (fun i q => (congrFun eg12 i).trans ((up_n (by omega)).trans ((congrFun eg11 i).trans ((up_n (by omega)).trans ((congrFun eg10 i).trans ((up_n (by omega)).trans ((congrFun eg9 i).trans ((up_n (by omega)).trans ((congrFun eg8 i).trans ((up_n (by omega)).trans ((congrFun eg7 i).trans ((up_n (by omega)).trans (rfl)))))))))))))) (Nat.le_refl _)) (Nat.le_refl _)
            · exact absurd c46 (by decide +kernel)
          · exact absurd ⟨c31, c35⟩ q2
    · exact absurd c12 (by decide +kernel)
theorem q_next {h : AH} {d bc bs n : Nat} {σ : CS} {th : Int32} {a : Int32} (hR : RMo h σ th) (hI : Iv σ) (hn : 159 ≤ n) (hd : 8 ≤ d) (h1 : 1 ≤ bc) (h2 : 12 ≤ bs)  : SM SR0 MX5_next d bc bs [.ref 135, .int a] h n (PM h n (tc sI sS) (opNext σ a)) := by
  obtain ⟨ρ, τ, hM, hA⟩ := hR
  obtain ⟨G0, hG0, eG0⟩ := hM.out
  refine sm_of pn_OverwalksModel rfl (Nat.le_of_ble_eq_true rfl) ?_
  rcases idxN 6 (by decide +kernel) a with qk1 | ⟨k, hk, rfl⟩
  · refine sw_aload_n (pc' := 1) rfl dX5_next_0 rfl ?_
    refine sw_iload_n (pc' := 2) rfl dX5_next_1 rfl ?_
    refine sw_S (M' := MX5_isNoWalk) (d' := d - 1) (bc' := 0) (bs' := 0) (as := [_]) dX5_next_2 w_1306 ok_X5_isNoWalk (q_isNoWalk (by omega)) (by omega) (Nat.le_of_ble_eq_true rfl) (Nat.zero_le _) (Nat.zero_le _) (fun E h' n' _ z => det_x z) (det_k ?_)
    rw [show inB a 0 5 = false from no_x (N := 5) (by decide +kernel) qk1]
    show SW _ _ _ _ _ _ _ (.int 1 :: _) _ _ _
    refine sw_aload_n (pc' := 6) rfl dX5_next_5 rfl ?_
    refine sw_iload_n (pc' := 7) rfl dX5_next_6 rfl ?_
    refine sw_V (M' := MX5_isUnmade) (d' := d - 1) (bc' := 0) (bs' := 0) (ci := 6) (as := [_]) dX5_next_7 w_1313 ok_X5_isUnmade (q_isUnmade_x hM (no_x (N := 5) (by decide +kernel) qk1) (by omega)) hM.ob rfl (by omega) (Nat.le_of_ble_eq_true rfl) (Nat.zero_le _) (Nat.zero_le _) (fun E h' n' _ z => det_x z) (det_k ?_)
    refine sw_V (M' := MX5_isStopped_) (d' := d - 1) (bc' := 0) (bs' := 0) (ci := 6) (as := [_, _]) dX5_next_10 w_1215 ok_X5_isStopped_ (q_isStopped2 (a := true) (b := false) hM hA (by omega)) hM.ob rfl (by omega) (Nat.le_of_ble_eq_true rfl) (Nat.zero_le _) (Nat.zero_le _) (fun E h' n' _ z => rp_x z) (rp_k (fun p10 p10ρ p10τ p10M p10A p10F => ?_))
    obtain ⟨Gp10, hGp10, eGp10⟩ := p10M.out
    show SW _ _ _ _ _ _ _ (.int 1 :: _) _ _ _
    refine sw_if_eq (pc' := 16) (tgt := 18) rfl dX5_next_13 (by decide +kernel) (fun c13 => ?_) (fun c13 => ?_)
    · exact absurd c13 (by decide +kernel)
    · refine sw_iconst (pc' := 17) (v := 0) rfl dX5_next_16 (by decide +kernel) ?_
      refine sw_ret (v := some _) ⟨dX5_next_17, _, rfl, rfl⟩ ?_
      rw [opNext, onWk_x qk1]
      exact pm_x tc_1 p10M p10A p10F (Nat.le_refl _)
  have ovk := hI.2.2.2.2.2.2.1 k hk
  have hcwk := hI.1 _ ovk
  rcases Classical.em ((σ.2.2.2.2.1 k).1 = false) with qm | qm
  · refine sw_aload_n (pc' := 1) rfl dX5_next_0 rfl ?_
    refine sw_iload_n (pc' := 2) rfl dX5_next_1 rfl ?_
    refine sw_S (M' := MX5_isNoWalk) (d' := d - 1) (bc' := 0) (bs' := 0) (as := [_]) dX5_next_2 w_1306 ok_X5_isNoWalk (q_isNoWalk (by omega)) (by omega) (Nat.le_of_ble_eq_true rfl) (Nat.zero_le _) (Nat.zero_le _) (fun E h' n' _ z => det_x z) (det_k ?_)
    rw [show inB (nI k) 0 5 = true from inB_k (N := 5) (by omega) (by decide +kernel)]
    show SW _ _ _ _ _ _ _ (.int 0 :: _) _ _ _
    refine sw_aload_n (pc' := 6) rfl dX5_next_5 rfl ?_
    refine sw_iload_n (pc' := 7) rfl dX5_next_6 rfl ?_
    refine sw_V (M' := MX5_isUnmade) (d' := d - 1) (bc' := 0) (bs' := 0) (ci := 6) (as := [_]) dX5_next_7 w_1313 ok_X5_isUnmade (q_isUnmade_k hM (k := k) (by omega) (hI.2.2.2.2.2.2.1 k (by omega)) (by omega)) hM.ob rfl (by omega) (Nat.le_of_ble_eq_true rfl) (Nat.zero_le _) (Nat.zero_le _) (fun E h' n' _ z => det_x z) (det_k ?_)
    rw [show (σ.2.2.2.2.1 k).1 = false from qm]
    show SW _ _ _ _ _ _ _ (.int 1 :: _) _ _ _
    refine sw_V (M' := MX5_isStopped_) (d' := d - 1) (bc' := 0) (bs' := 0) (ci := 6) (as := [_, _]) dX5_next_10 w_1215 ok_X5_isStopped_ (q_isStopped2 (a := false) (b := true) hM hA (by omega)) hM.ob rfl (by omega) (Nat.le_of_ble_eq_true rfl) (Nat.zero_le _) (Nat.zero_le _) (fun E h' n' _ z => rp_x z) (rp_k (fun p10 p10ρ p10τ p10M p10A p10F => ?_))
    obtain ⟨Gp10, hGp10, eGp10⟩ := p10M.out
    show SW _ _ _ _ _ _ _ (.int 1 :: _) _ _ _
    refine sw_if_eq (pc' := 16) (tgt := 18) rfl dX5_next_13 (by decide +kernel) (fun c13 => ?_) (fun c13 => ?_)
    · exact absurd c13 (by decide +kernel)
    · refine sw_iconst (pc' := 17) (v := 0) rfl dX5_next_16 (by decide +kernel) ?_
      refine sw_ret (v := some _) ⟨dX5_next_17, _, rfl, rfl⟩ ?_
      rw [opNext, onWk_k hk, if_pos qm]
      exact pm_x (tc_2 sSI) p10M p10A p10F (Nat.le_refl _)
  refine sw_aload_n (pc' := 1) rfl dX5_next_0 rfl ?_
  refine sw_iload_n (pc' := 2) rfl dX5_next_1 rfl ?_
  refine sw_S (M' := MX5_isNoWalk) (d' := d - 1) (bc' := 0) (bs' := 0) (as := [_]) dX5_next_2 w_1306 ok_X5_isNoWalk (q_isNoWalk (by omega)) (by omega) (Nat.le_of_ble_eq_true rfl) (Nat.zero_le _) (Nat.zero_le _) (fun E h' n' _ z => det_x z) (det_k ?_)
  rw [show inB (nI k) 0 5 = true from inB_k (N := 5) (by omega) (by decide +kernel)]
  show SW _ _ _ _ _ _ _ (.int 0 :: _) _ _ _
  refine sw_aload_n (pc' := 6) rfl dX5_next_5 rfl ?_
  refine sw_iload_n (pc' := 7) rfl dX5_next_6 rfl ?_
  refine sw_V (M' := MX5_isUnmade) (d' := d - 1) (bc' := 0) (bs' := 0) (ci := 6) (as := [_]) dX5_next_7 w_1313 ok_X5_isUnmade (q_isUnmade_k hM (k := k) (by omega) (hI.2.2.2.2.2.2.1 k (by omega)) (by omega)) hM.ob rfl (by omega) (Nat.le_of_ble_eq_true rfl) (Nat.zero_le _) (Nat.zero_le _) (fun E h' n' _ z => det_x z) (det_k ?_)
  rw [show (σ.2.2.2.2.1 k).1 = true from (mkT qm)]
  show SW _ _ _ _ _ _ _ (.int 0 :: _) _ _ _
  refine sw_V (M' := MX5_isStopped_) (d' := d - 1) (bc' := 0) (bs' := 0) (ci := 6) (as := [_, _]) dX5_next_10 w_1215 ok_X5_isStopped_ (q_isStopped2 (a := false) (b := false) hM hA (by omega)) hM.ob rfl (by omega) (Nat.le_of_ble_eq_true rfl) (Nat.zero_le _) (Nat.zero_le _) (fun E h' n' _ z => rp_x z) (rp_k (fun p10 p10ρ p10τ p10M p10A p10F => ?_))
  obtain ⟨Gp10, hGp10, eGp10⟩ := p10M.out
  show SW _ _ _ _ _ _ _ (.int 0 :: _) _ _ _
  refine sw_if_eq (pc' := 16) (tgt := 18) rfl dX5_next_13 (by decide +kernel) (fun c13 => ?_) (fun c13 => ?_)
  · refine sw_aload_n (pc' := 19) rfl dX5_next_18 rfl ?_
    refine sw_iload_n (pc' := 20) rfl dX5_next_19 rfl ?_
    refine sw_V (M' := MX5_isStale) (d' := d - 1) (bc' := 0) (bs' := 0) (ci := 6) (as := [_]) dX5_next_20 w_1317 ok_X5_isStale (q_isStale p10M (k := k) (by omega) (mkT qm) (hI.2.2.2.2.2.2.1 k (by omega))) p10M.ob rfl (by omega) (Nat.le_of_ble_eq_true rfl) (Nat.zero_le _) (Nat.zero_le _) (fun E h' n' _ z => det_x z) (det_k ?_)
    refine sw_if_ne (pc' := 26) (tgt := 34) rfl dX5_next_23 (by decide +kernel) (fun c23 => ?_) (fun c23 => ?_)
    · refine sw_aload_n (pc' := 35) rfl dX5_next_34 rfl ?_
      refine sw_V (M' := MX5_no) (d' := d - 1) (bc' := 0) (bs' := 0) (ci := 6) (as := []) dX5_next_35 w_1184 ok_X5_no (q_no p10M p10A) p10M.ob rfl (by omega) (Nat.le_of_ble_eq_true rfl) (Nat.zero_le _) (Nat.zero_le _) (fun E h' n' _ z => rp_x z) (rp_k (fun p35 p35ρ p35τ p35M p35A p35F => ?_))
      obtain ⟨Gp35, hGp35, eGp35⟩ := p35M.out
      refine sw_goto (tgt := 46) dX5_next_38 (by decide +kernel) ?_
      refine sw_ret (v := some _) ⟨dX5_next_46, _, rfl, rfl⟩ ?_
      rw [opNext, onWk_k hk, if_neg qm, if_pos (wHM_s (bI_1 c23))]
      exact pm_k p35M p35A (p10F.tr p35F (Nat.le_refl _)) (Nat.le_refl _)
    · refine sw_aload_n (pc' := 27) rfl dX5_next_26 rfl ?_
      refine sw_iload_n (pc' := 28) rfl dX5_next_27 rfl ?_
      refine sw_V (M' := MX5_hasMore) (d' := d - 1) (bc' := 0) (bs' := 0) (ci := 6) (as := [_]) dX5_next_28 w_1321 ok_X5_hasMore (q_hasMore p10M (k := k) (by omega) (mkT qm) (hI.2.2.2.2.2.2.1 k (by omega))) p10M.ob rfl (by omega) (Nat.le_of_ble_eq_true rfl) (Nat.zero_le _) (Nat.zero_le _) (fun E h' n' _ z => det_x z) (det_k ?_)
      refine sw_if_ne (pc' := 34) (tgt := 41) rfl dX5_next_31 (by decide +kernel) (fun c31 => ?_) (fun c31 => ?_)
      · obtain ⟨A, eA, hA1, hA2⟩ := hI.2.2.2.2.2.2.2 k hk (mkT qm) (bI_0 c23)
        have hA3 : A < σ.2.1 (wO σ k) := (nI_ltI (by omega) (by omega)).mp (eA ▸ of_decide_eq_true (bI_1 c31))
        refine sw_aload_n (pc' := 42) rfl dX5_next_41 rfl ?_
        refine sw_iload_n (pc' := 43) rfl dX5_next_42 rfl ?_
        refine sw_V (M' := MX5_give) (d' := d - 1) (bc' := 0) (bs' := 0) (ci := 6) (as := [_]) dX5_next_43 w_1325 ok_X5_give (q_give p10M p10A (k := k) (by omega) (mkT qm) (hI.2.2.2.2.2.2.1 k (by omega)) (hI.1 _ (hI.2.2.2.2.2.2.1 k (by omega))) eA hA3) p10M.ob rfl (by omega) (Nat.le_of_ble_eq_true rfl) (Nat.zero_le _) (Nat.zero_le _) (fun E h' n' _ z => rp_x z) (rp_k (fun p43 p43ρ p43τ p43M p43A p43F => ?_))
        obtain ⟨Gp43, hGp43, eGp43⟩ := p43M.out
        refine sw_ret (v := some _) ⟨dX5_next_46, _, rfl, rfl⟩ ?_
        rw [opNext, onWk_k hk, if_neg qm, if_neg (wHM_t (bI_0 c23) (bI_1 c31)), eA, taI_in hA3 hcwk]
        exact pm_k p43M p43A (p10F.tr p43F (Nat.le_refl _)) (Nat.le_refl _)
      · refine sw_aload_n (pc' := 35) rfl dX5_next_34 rfl ?_
        refine sw_V (M' := MX5_no) (d' := d - 1) (bc' := 0) (bs' := 0) (ci := 6) (as := []) dX5_next_35 w_1184 ok_X5_no (q_no p10M p10A) p10M.ob rfl (by omega) (Nat.le_of_ble_eq_true rfl) (Nat.zero_le _) (Nat.zero_le _) (fun E h' n' _ z => rp_x z) (rp_k (fun p35 p35ρ p35τ p35M p35A p35F => ?_))
        obtain ⟨Gp35, hGp35, eGp35⟩ := p35M.out
        refine sw_goto (tgt := 46) dX5_next_38 (by decide +kernel) ?_
        refine sw_ret (v := some _) ⟨dX5_next_46, _, rfl, rfl⟩ ?_
        rw [opNext, onWk_k hk, if_neg qm, if_pos (wHM_f (bI_0 c23) (bI_0 c31))]
        exact pm_k p35M p35A (p10F.tr p35F (Nat.le_refl _)) (Nat.le_refl _)
  · exact absurd c13 (by decide +kernel)
theorem q_more {h : AH} {d bc bs n : Nat} {σ : CS} {th : Int32} {a : Int32} (hR : RMo h σ th) (hI : Iv σ) (hn : 159 ≤ n) (hd : 8 ≤ d) (h1 : 1 ≤ bc) (h2 : 12 ≤ bs)  : SM SR0 MX5_more d bc bs [.ref 135, .int a] h n (PM h n (tc sI sS) (opMore σ a)) := by
  obtain ⟨ρ, τ, hM, hA⟩ := hR
  obtain ⟨G0, hG0, eG0⟩ := hM.out
  refine sm_of pn_OverwalksModel rfl (Nat.le_of_ble_eq_true rfl) ?_
  rcases idxN 6 (by decide +kernel) a with qk1 | ⟨k, hk, rfl⟩
  · refine sw_aload_n (pc' := 1) rfl dX5_more_0 rfl ?_
    refine sw_iload_n (pc' := 2) rfl dX5_more_1 rfl ?_
    refine sw_S (M' := MX5_isNoWalk) (d' := d - 1) (bc' := 0) (bs' := 0) (as := [_]) dX5_more_2 w_1306 ok_X5_isNoWalk (q_isNoWalk (by omega)) (by omega) (Nat.le_of_ble_eq_true rfl) (Nat.zero_le _) (Nat.zero_le _) (fun E h' n' _ z => det_x z) (det_k ?_)
    rw [show inB a 0 5 = false from no_x (N := 5) (by decide +kernel) qk1]
    show SW _ _ _ _ _ _ _ (.int 1 :: _) _ _ _
    refine sw_aload_n (pc' := 6) rfl dX5_more_5 rfl ?_
    refine sw_iload_n (pc' := 7) rfl dX5_more_6 rfl ?_
    refine sw_V (M' := MX5_isUnmade) (d' := d - 1) (bc' := 0) (bs' := 0) (ci := 6) (as := [_]) dX5_more_7 w_1313 ok_X5_isUnmade (q_isUnmade_x hM (no_x (N := 5) (by decide +kernel) qk1) (by omega)) hM.ob rfl (by omega) (Nat.le_of_ble_eq_true rfl) (Nat.zero_le _) (Nat.zero_le _) (fun E h' n' _ z => det_x z) (det_k ?_)
    refine sw_V (M' := MX5_isStopped_) (d' := d - 1) (bc' := 0) (bs' := 0) (ci := 6) (as := [_, _]) dX5_more_10 w_1215 ok_X5_isStopped_ (q_isStopped2 (a := true) (b := false) hM hA (by omega)) hM.ob rfl (by omega) (Nat.le_of_ble_eq_true rfl) (Nat.zero_le _) (Nat.zero_le _) (fun E h' n' _ z => rp_x z) (rp_k (fun p10 p10ρ p10τ p10M p10A p10F => ?_))
    obtain ⟨Gp10, hGp10, eGp10⟩ := p10M.out
    show SW _ _ _ _ _ _ _ (.int 1 :: _) _ _ _
    refine sw_if_eq (pc' := 16) (tgt := 18) rfl dX5_more_13 (by decide +kernel) (fun c13 => ?_) (fun c13 => ?_)
    · exact absurd c13 (by decide +kernel)
    · refine sw_iconst (pc' := 17) (v := 0) rfl dX5_more_16 (by decide +kernel) ?_
      refine sw_ret (v := some _) ⟨dX5_more_17, _, rfl, rfl⟩ ?_
      rw [opMore, onWk_x qk1]
      exact pm_x tc_1 p10M p10A p10F (Nat.le_refl _)
  have ovk := hI.2.2.2.2.2.2.1 k hk
  have hcwk := hI.1 _ ovk
  rcases Classical.em ((σ.2.2.2.2.1 k).1 = false) with qm | qm
  · refine sw_aload_n (pc' := 1) rfl dX5_more_0 rfl ?_
    refine sw_iload_n (pc' := 2) rfl dX5_more_1 rfl ?_
    refine sw_S (M' := MX5_isNoWalk) (d' := d - 1) (bc' := 0) (bs' := 0) (as := [_]) dX5_more_2 w_1306 ok_X5_isNoWalk (q_isNoWalk (by omega)) (by omega) (Nat.le_of_ble_eq_true rfl) (Nat.zero_le _) (Nat.zero_le _) (fun E h' n' _ z => det_x z) (det_k ?_)
    rw [show inB (nI k) 0 5 = true from inB_k (N := 5) (by omega) (by decide +kernel)]
    show SW _ _ _ _ _ _ _ (.int 0 :: _) _ _ _
    refine sw_aload_n (pc' := 6) rfl dX5_more_5 rfl ?_
    refine sw_iload_n (pc' := 7) rfl dX5_more_6 rfl ?_
    refine sw_V (M' := MX5_isUnmade) (d' := d - 1) (bc' := 0) (bs' := 0) (ci := 6) (as := [_]) dX5_more_7 w_1313 ok_X5_isUnmade (q_isUnmade_k hM (k := k) (by omega) (hI.2.2.2.2.2.2.1 k (by omega)) (by omega)) hM.ob rfl (by omega) (Nat.le_of_ble_eq_true rfl) (Nat.zero_le _) (Nat.zero_le _) (fun E h' n' _ z => det_x z) (det_k ?_)
    rw [show (σ.2.2.2.2.1 k).1 = false from qm]
    show SW _ _ _ _ _ _ _ (.int 1 :: _) _ _ _
    refine sw_V (M' := MX5_isStopped_) (d' := d - 1) (bc' := 0) (bs' := 0) (ci := 6) (as := [_, _]) dX5_more_10 w_1215 ok_X5_isStopped_ (q_isStopped2 (a := false) (b := true) hM hA (by omega)) hM.ob rfl (by omega) (Nat.le_of_ble_eq_true rfl) (Nat.zero_le _) (Nat.zero_le _) (fun E h' n' _ z => rp_x z) (rp_k (fun p10 p10ρ p10τ p10M p10A p10F => ?_))
    obtain ⟨Gp10, hGp10, eGp10⟩ := p10M.out
    show SW _ _ _ _ _ _ _ (.int 1 :: _) _ _ _
    refine sw_if_eq (pc' := 16) (tgt := 18) rfl dX5_more_13 (by decide +kernel) (fun c13 => ?_) (fun c13 => ?_)
    · exact absurd c13 (by decide +kernel)
    · refine sw_iconst (pc' := 17) (v := 0) rfl dX5_more_16 (by decide +kernel) ?_
      refine sw_ret (v := some _) ⟨dX5_more_17, _, rfl, rfl⟩ ?_
      rw [opMore, onWk_k hk, if_pos qm]
      exact pm_x (tc_2 sSI) p10M p10A p10F (Nat.le_refl _)
  refine sw_aload_n (pc' := 1) rfl dX5_more_0 rfl ?_
  refine sw_iload_n (pc' := 2) rfl dX5_more_1 rfl ?_
  refine sw_S (M' := MX5_isNoWalk) (d' := d - 1) (bc' := 0) (bs' := 0) (as := [_]) dX5_more_2 w_1306 ok_X5_isNoWalk (q_isNoWalk (by omega)) (by omega) (Nat.le_of_ble_eq_true rfl) (Nat.zero_le _) (Nat.zero_le _) (fun E h' n' _ z => det_x z) (det_k ?_)
  rw [show inB (nI k) 0 5 = true from inB_k (N := 5) (by omega) (by decide +kernel)]
  show SW _ _ _ _ _ _ _ (.int 0 :: _) _ _ _
  refine sw_aload_n (pc' := 6) rfl dX5_more_5 rfl ?_
  refine sw_iload_n (pc' := 7) rfl dX5_more_6 rfl ?_
  refine sw_V (M' := MX5_isUnmade) (d' := d - 1) (bc' := 0) (bs' := 0) (ci := 6) (as := [_]) dX5_more_7 w_1313 ok_X5_isUnmade (q_isUnmade_k hM (k := k) (by omega) (hI.2.2.2.2.2.2.1 k (by omega)) (by omega)) hM.ob rfl (by omega) (Nat.le_of_ble_eq_true rfl) (Nat.zero_le _) (Nat.zero_le _) (fun E h' n' _ z => det_x z) (det_k ?_)
  rw [show (σ.2.2.2.2.1 k).1 = true from (mkT qm)]
  show SW _ _ _ _ _ _ _ (.int 0 :: _) _ _ _
  refine sw_V (M' := MX5_isStopped_) (d' := d - 1) (bc' := 0) (bs' := 0) (ci := 6) (as := [_, _]) dX5_more_10 w_1215 ok_X5_isStopped_ (q_isStopped2 (a := false) (b := false) hM hA (by omega)) hM.ob rfl (by omega) (Nat.le_of_ble_eq_true rfl) (Nat.zero_le _) (Nat.zero_le _) (fun E h' n' _ z => rp_x z) (rp_k (fun p10 p10ρ p10τ p10M p10A p10F => ?_))
  obtain ⟨Gp10, hGp10, eGp10⟩ := p10M.out
  show SW _ _ _ _ _ _ _ (.int 0 :: _) _ _ _
  refine sw_if_eq (pc' := 16) (tgt := 18) rfl dX5_more_13 (by decide +kernel) (fun c13 => ?_) (fun c13 => ?_)
  · refine sw_aload_n (pc' := 19) rfl dX5_more_18 rfl ?_
    refine sw_iload_n (pc' := 20) rfl dX5_more_19 rfl ?_
    refine sw_V (M' := MX5_isStale) (d' := d - 1) (bc' := 0) (bs' := 0) (ci := 6) (as := [_]) dX5_more_20 w_1317 ok_X5_isStale (q_isStale p10M (k := k) (by omega) (mkT qm) (hI.2.2.2.2.2.2.1 k (by omega))) p10M.ob rfl (by omega) (Nat.le_of_ble_eq_true rfl) (Nat.zero_le _) (Nat.zero_le _) (fun E h' n' _ z => det_x z) (det_k ?_)
    refine sw_if_eq (pc' := 26) (tgt := 33) rfl dX5_more_23 (by decide +kernel) (fun c23 => ?_) (fun c23 => ?_)
    · refine sw_aload_n (pc' := 34) rfl dX5_more_33 rfl ?_
      refine sw_iload_n (pc' := 35) rfl dX5_more_34 rfl ?_
      refine sw_V (M' := MX5_hasMore) (d' := d - 1) (bc' := 0) (bs' := 0) (ci := 6) (as := [_]) dX5_more_35 w_1321 ok_X5_hasMore (q_hasMore p10M (k := k) (by omega) (mkT qm) (hI.2.2.2.2.2.2.1 k (by omega))) p10M.ob rfl (by omega) (Nat.le_of_ble_eq_true rfl) (Nat.zero_le _) (Nat.zero_le _) (fun E h' n' _ z => det_x z) (det_k ?_)
      refine sw_S (M' := MX5_one) (d' := d - 1) (bc' := 0) (bs' := 0) (as := [_]) dX5_more_38 w_1196 ok_X5_one (q_one (q := (decide (wAh σ k < nI (σ.2.1 (wO σ k)))))) (by omega) (Nat.le_of_ble_eq_true rfl) (Nat.zero_le _) (Nat.zero_le _) (fun E h' n' _ z => det_x z) (det_k ?_)
      refine sw_ret (v := some _) ⟨dX5_more_41, _, rfl, rfl⟩ ?_
      rw [opMore, onWk_k hk, if_neg qm, if_neg (fun e => Bool.noConfusion (e.symm.trans (bI_0 c23))), wHM_m (bI_0 c23)]
      exact pm_k p10M p10A p10F (Nat.le_refl _)
    · refine sw_aload_n (pc' := 27) rfl dX5_more_26 rfl ?_
      refine sw_V (M' := MX5_no) (d' := d - 1) (bc' := 0) (bs' := 0) (ci := 6) (as := []) dX5_more_27 w_1184 ok_X5_no (q_no p10M p10A) p10M.ob rfl (by omega) (Nat.le_of_ble_eq_true rfl) (Nat.zero_le _) (Nat.zero_le _) (fun E h' n' _ z => rp_x z) (rp_k (fun p27 p27ρ p27τ p27M p27A p27F => ?_))
      obtain ⟨Gp27, hGp27, eGp27⟩ := p27M.out
      refine sw_goto (tgt := 41) dX5_more_30 (by decide +kernel) ?_
      refine sw_ret (v := some _) ⟨dX5_more_41, _, rfl, rfl⟩ ?_
      rw [opMore, onWk_k hk, if_neg qm, if_pos (bI_1 c23)]
      exact pm_k p27M p27A (p10F.tr p27F (Nat.le_refl _)) (Nat.le_refl _)
  · exact absurd c13 (by decide +kernel)
theorem q_keep {h : AH} {d bc bs n : Nat} {σ : CS} {th : Int32} {a b : Int32} (hR : RMo h σ th) (hI : Iv σ) (hn : 159 ≤ n) (hd : 8 ≤ d) (h1 : 1 ≤ bc) (h2 : 12 ≤ bs)  : SM SR0 MX5_keep d bc bs [.ref 135, .int a, .int b] h n (PM h n (tc sI sI) (opKeep σ a b)) := by
  obtain ⟨ρ, τ, hM, hA⟩ := hR
  obtain ⟨G0, hG0, eG0⟩ := hM.out
  refine sm_of pn_OverwalksModel rfl (Nat.le_of_ble_eq_true rfl) ?_
  rcases Classical.em (a < 8) with qk | qk
  · refine sw_aload_n (pc' := 1) rfl dX5_keep_0 rfl ?_
    refine sw_iload_n (pc' := 2) rfl dX5_keep_1 rfl ?_
    refine sw_S (M' := MX5_isNoList) (d' := d - 1) (bc' := 0) (bs' := 0) (as := [_]) dX5_keep_2 w_1368 ok_X5_isNoList (q_isNoList (by omega)) (by omega) (Nat.le_of_ble_eq_true rfl) (Nat.zero_le _) (Nat.zero_le _) (fun E h' n' _ z => det_x z) (det_k ?_)
    rw [show inB a 8 10 = false from inB_f1 qk]
    show SW _ _ _ _ _ _ _ (.int 1 :: _) _ _ _
    refine sw_if_ne (pc' := 8) (tgt := 15) rfl dX5_keep_5 (by decide +kernel) (fun c5 => ?_) (fun c5 => ?_)
    · refine sw_iconst (pc' := 16) (v := 1) rfl dX5_keep_15 (by decide +kernel) ?_
      refine sw_goto (tgt := 20) dX5_keep_16 (by decide +kernel) ?_
      refine sw_V (M' := MX5_isStopped__) (d' := d - 1) (bc' := 0) (bs' := 0) (ci := 6) (as := [_]) dX5_keep_20 w_1235 ok_X5_isStopped__ (q_isStopped1 (a := true) hM hA (by omega)) hM.ob rfl (by omega) (Nat.le_of_ble_eq_true rfl) (Nat.zero_le _) (Nat.zero_le _) (fun E h' n' _ z => rp_x z) (rp_k (fun p20 p20ρ p20τ p20M p20A p20F => ?_))
      obtain ⟨Gp20, hGp20, eGp20⟩ := p20M.out
      show SW _ _ _ _ _ _ _ (.int 1 :: _) _ _ _
      refine sw_if_eq (pc' := 26) (tgt := 30) rfl dX5_keep_23 (by decide +kernel) (fun c23 => ?_) (fun c23 => ?_)
      · exact absurd c23 (by decide +kernel)
      · refine sw_iconst (pc' := 27) (v := 0) rfl dX5_keep_26 (by decide +kernel) ?_
        refine sw_goto (tgt := 41) dX5_keep_27 (by decide +kernel) ?_
        refine sw_ret (v := some _) ⟨dX5_keep_41, _, rfl, rfl⟩ ?_
        rw [opKeep, if_li qk]
        exact pm_x tc_1 p20M p20A p20F (Nat.le_refl _)
    · exact absurd c5 (by decide +kernel)
  rcases idxN 11 (by decide +kernel) a with qk1 | ⟨k, hk, rfl⟩
  · refine sw_aload_n (pc' := 1) rfl dX5_keep_0 rfl ?_
    refine sw_iload_n (pc' := 2) rfl dX5_keep_1 rfl ?_
    refine sw_S (M' := MX5_isNoList) (d' := d - 1) (bc' := 0) (bs' := 0) (as := [_]) dX5_keep_2 w_1368 ok_X5_isNoList (q_isNoList (by omega)) (by omega) (Nat.le_of_ble_eq_true rfl) (Nat.zero_le _) (Nat.zero_le _) (fun E h' n' _ z => det_x z) (det_k ?_)
    rw [show inB a 8 10 = false from li_x qk qk1]
    show SW _ _ _ _ _ _ _ (.int 1 :: _) _ _ _
    refine sw_if_ne (pc' := 8) (tgt := 15) rfl dX5_keep_5 (by decide +kernel) (fun c5 => ?_) (fun c5 => ?_)
    · refine sw_iconst (pc' := 16) (v := 1) rfl dX5_keep_15 (by decide +kernel) ?_
      refine sw_goto (tgt := 20) dX5_keep_16 (by decide +kernel) ?_
      refine sw_V (M' := MX5_isStopped__) (d' := d - 1) (bc' := 0) (bs' := 0) (ci := 6) (as := [_]) dX5_keep_20 w_1235 ok_X5_isStopped__ (q_isStopped1 (a := true) hM hA (by omega)) hM.ob rfl (by omega) (Nat.le_of_ble_eq_true rfl) (Nat.zero_le _) (Nat.zero_le _) (fun E h' n' _ z => rp_x z) (rp_k (fun p20 p20ρ p20τ p20M p20A p20F => ?_))
      obtain ⟨Gp20, hGp20, eGp20⟩ := p20M.out
      show SW _ _ _ _ _ _ _ (.int 1 :: _) _ _ _
      refine sw_if_eq (pc' := 26) (tgt := 30) rfl dX5_keep_23 (by decide +kernel) (fun c23 => ?_) (fun c23 => ?_)
      · exact absurd c23 (by decide +kernel)
      · refine sw_iconst (pc' := 27) (v := 0) rfl dX5_keep_26 (by decide +kernel) ?_
        refine sw_goto (tgt := 41) dX5_keep_27 (by decide +kernel) ?_
        refine sw_ret (v := some _) ⟨dX5_keep_41, _, rfl, rfl⟩ ?_
        rw [opKeep, onLi_z qk qk1]
        exact pm_x tc_1 p20M p20A p20F (Nat.le_refl _)
    · exact absurd c5 (by decide +kernel)
  have hck := hI.1 k hk
  rcases idxN 11 (by decide +kernel) b with qj1 | ⟨j, hj, rfl⟩
  · refine sw_aload_n (pc' := 1) rfl dX5_keep_0 rfl ?_
    refine sw_iload_n (pc' := 2) rfl dX5_keep_1 rfl ?_
    refine sw_S (M' := MX5_isNoList) (d' := d - 1) (bc' := 0) (bs' := 0) (as := [_]) dX5_keep_2 w_1368 ok_X5_isNoList (q_isNoList (by omega)) (by omega) (Nat.le_of_ble_eq_true rfl) (Nat.zero_le _) (Nat.zero_le _) (fun E h' n' _ z => det_x z) (det_k ?_)
    rw [show inB (nI k) 8 10 = true from li_k qk hk]
    show SW _ _ _ _ _ _ _ (.int 0 :: _) _ _ _
    refine sw_if_ne (pc' := 8) (tgt := 15) rfl dX5_keep_5 (by decide +kernel) (fun c5 => ?_) (fun c5 => ?_)
    · exact absurd c5 (by decide +kernel)
    · refine sw_iload_n (pc' := 9) rfl dX5_keep_8 rfl ?_
      refine sw_S (M' := MX5_isNone) (d' := d - 1) (bc' := 0) (bs' := 0) (as := [_]) dX5_keep_9 w_1165 ok_X5_isNone (q_isNone (by omega)) (by omega) (Nat.le_of_ble_eq_true rfl) (Nat.zero_le _) (Nat.zero_le _) (fun E h' n' _ z => det_x z) (det_k ?_)
      rw [show inB b 0 10 = false from no_x (N := 10) (by decide +kernel) qj1]
      show SW _ _ _ _ _ _ _ (.int 1 :: _) _ _ _
      refine sw_if_eq (pc' := 15) (tgt := 19) rfl dX5_keep_12 (by decide +kernel) (fun c12 => ?_) (fun c12 => ?_)
      · exact absurd c12 (by decide +kernel)
      · refine sw_iconst (pc' := 16) (v := 1) rfl dX5_keep_15 (by decide +kernel) ?_
        refine sw_goto (tgt := 20) dX5_keep_16 (by decide +kernel) ?_
        refine sw_V (M' := MX5_isStopped__) (d' := d - 1) (bc' := 0) (bs' := 0) (ci := 6) (as := [_]) dX5_keep_20 w_1235 ok_X5_isStopped__ (q_isStopped1 (a := true) hM hA (by omega)) hM.ob rfl (by omega) (Nat.le_of_ble_eq_true rfl) (Nat.zero_le _) (Nat.zero_le _) (fun E h' n' _ z => rp_x z) (rp_k (fun p20 p20ρ p20τ p20M p20A p20F => ?_))
        obtain ⟨Gp20, hGp20, eGp20⟩ := p20M.out
        show SW _ _ _ _ _ _ _ (.int 1 :: _) _ _ _
        refine sw_if_eq (pc' := 26) (tgt := 30) rfl dX5_keep_23 (by decide +kernel) (fun c23 => ?_) (fun c23 => ?_)
        · exact absurd c23 (by decide +kernel)
        · refine sw_iconst (pc' := 27) (v := 0) rfl dX5_keep_26 (by decide +kernel) ?_
          refine sw_goto (tgt := 41) dX5_keep_27 (by decide +kernel) ?_
          refine sw_ret (v := some _) ⟨dX5_keep_41, _, rfl, rfl⟩ ?_
          rw [opKeep, onLi_k qk hk, onSh_x qj1]
          exact pm_x tc_1 p20M p20A p20F (Nat.le_refl _)
  have hcj := hI.1 j hj
  refine sw_aload_n (pc' := 1) rfl dX5_keep_0 rfl ?_
  refine sw_iload_n (pc' := 2) rfl dX5_keep_1 rfl ?_
  refine sw_S (M' := MX5_isNoList) (d' := d - 1) (bc' := 0) (bs' := 0) (as := [_]) dX5_keep_2 w_1368 ok_X5_isNoList (q_isNoList (by omega)) (by omega) (Nat.le_of_ble_eq_true rfl) (Nat.zero_le _) (Nat.zero_le _) (fun E h' n' _ z => det_x z) (det_k ?_)
  rw [show inB (nI k) 8 10 = true from li_k qk hk]
  show SW _ _ _ _ _ _ _ (.int 0 :: _) _ _ _
  refine sw_if_ne (pc' := 8) (tgt := 15) rfl dX5_keep_5 (by decide +kernel) (fun c5 => ?_) (fun c5 => ?_)
  · exact absurd c5 (by decide +kernel)
  · refine sw_iload_n (pc' := 9) rfl dX5_keep_8 rfl ?_
    refine sw_S (M' := MX5_isNone) (d' := d - 1) (bc' := 0) (bs' := 0) (as := [_]) dX5_keep_9 w_1165 ok_X5_isNone (q_isNone (by omega)) (by omega) (Nat.le_of_ble_eq_true rfl) (Nat.zero_le _) (Nat.zero_le _) (fun E h' n' _ z => det_x z) (det_k ?_)
    rw [show inB (nI j) 0 10 = true from inB_k (N := 10) (by omega) (by decide +kernel)]
    show SW _ _ _ _ _ _ _ (.int 0 :: _) _ _ _
    refine sw_if_eq (pc' := 15) (tgt := 19) rfl dX5_keep_12 (by decide +kernel) (fun c12 => ?_) (fun c12 => ?_)
    · refine sw_iconst (pc' := 20) (v := 0) rfl dX5_keep_19 (by decide +kernel) ?_
      refine sw_V (M' := MX5_isStopped__) (d' := d - 1) (bc' := 0) (bs' := 0) (ci := 6) (as := [_]) dX5_keep_20 w_1235 ok_X5_isStopped__ (q_isStopped1 (a := false) hM hA (by omega)) hM.ob rfl (by omega) (Nat.le_of_ble_eq_true rfl) (Nat.zero_le _) (Nat.zero_le _) (fun E h' n' _ z => rp_x z) (rp_k (fun p20 p20ρ p20τ p20M p20A p20F => ?_))
      obtain ⟨Gp20, hGp20, eGp20⟩ := p20M.out
      show SW _ _ _ _ _ _ _ (.int 0 :: _) _ _ _
      refine sw_if_eq (pc' := 26) (tgt := 30) rfl dX5_keep_23 (by decide +kernel) (fun c23 => ?_) (fun c23 => ?_)
      · refine sw_aload_n (pc' := 31) rfl dX5_keep_30 rfl ?_
        refine sw_iload_n (pc' := 32) rfl dX5_keep_31 rfl ?_
        refine sw_aload_n (pc' := 33) rfl dX5_keep_32 rfl ?_
        refine sw_iload_n (pc' := 34) rfl dX5_keep_33 rfl ?_
        refine sw_iconst (pc' := 35) (v := 0) rfl dX5_keep_34 (by decide +kernel) ?_
        refine sw_V (M' := MX5_picture) (d' := d - 1) (bc' := 1) (bs' := 12) (ci := 6) (as := [_, _]) dX5_keep_35 w_1255 ok_X5_picture (q_picture p20M p20A (k := j) (by omega) (hI.1 j (by omega)) (by omega) (by omega) (by omega)) p20M.ob rfl (by omega) (Nat.le_of_ble_eq_true rfl) (by omega) (by omega) (fun E h' n' _ z => na_x z) (na_k (fun p35 p35f p35N p35g p35F => ?_))
        have p35M := p20M.fr (fun i h1 h2 => p35F i (by omega))
        obtain ⟨Gp35, hGp35, eGp35⟩ := p35M.out
        refine sw_V (M' := MX5_made) (d' := d - 1) (bc' := 0) (bs' := 0) (ci := 6) (as := [_, _]) dX5_keep_38 w_1371 ok_X5_made (q_made p35M p20A (k := k) (f := blN (σ.1 k) (σ.1 j) 0 (σ.2.1 j)) (by omega) (by omega) p35N (by omega) (fun i hi => (p35g i hi).trans ((blN_in hi).trans (congrArg (σ.1 j) (Nat.zero_add i))).symm)) p35M.ob rfl (by omega) (Nat.le_of_ble_eq_true rfl) (Nat.zero_le _) (Nat.zero_le _) (fun E h' n' _ z => rp_x z) (rp_k (fun p38 p38ρ p38τ p38M p38A p38F => ?_))
        obtain ⟨Gp38, hGp38, eGp38⟩ := p38M.out
        refine sw_ret (v := some _) ⟨dX5_keep_41, _, rfl, rfl⟩ ?_
        rw [opKeep, onLi_k qk hk, onSh_k hj]
        exact pm_k p38M p38A ((p20F.tr (fun i q g => p35F i (by omega)) (Nat.le_refl _)).tr p38F (Nat.le_succ _)) (Nat.le_succ _)
      · exact absurd c23 (by decide +kernel)
    · exact absurd c12 (by decide +kernel)
theorem q_keepRest {h : AH} {d bc bs n : Nat} {σ : CS} {th : Int32} {a b : Int32} (hR : RMo h σ th) (hI : Iv σ) (hn : 159 ≤ n) (hd : 8 ≤ d) (h1 : 1 ≤ bc) (h2 : 12 ≤ bs)  : SM SR0 MX5_keepRest d bc bs [.ref 135, .int a, .int b] h n (PM h n (tc sI sS) (opKeepRest σ a b)) := by
  obtain ⟨ρ, τ, hM, hA⟩ := hR
  obtain ⟨G0, hG0, eG0⟩ := hM.out
  refine sm_of pn_OverwalksModel rfl (Nat.le_of_ble_eq_true rfl) ?_
  rcases idxN 6 (by decide +kernel) a with qk1 | ⟨k, hk, rfl⟩
  · refine sw_aload_n (pc' := 1) rfl dX5_keepRest_0 rfl ?_
    refine sw_iload_n (pc' := 2) rfl dX5_keepRest_1 rfl ?_
    refine sw_S (M' := MX5_isNoWalk) (d' := d - 1) (bc' := 0) (bs' := 0) (as := [_]) dX5_keepRest_2 w_1306 ok_X5_isNoWalk (q_isNoWalk (by omega)) (by omega) (Nat.le_of_ble_eq_true rfl) (Nat.zero_le _) (Nat.zero_le _) (fun E h' n' _ z => det_x z) (det_k ?_)
    rw [show inB a 0 5 = false from no_x (N := 5) (by decide +kernel) qk1]
    show SW _ _ _ _ _ _ _ (.int 1 :: _) _ _ _
    refine sw_if_ne (pc' := 8) (tgt := 15) rfl dX5_keepRest_5 (by decide +kernel) (fun c5 => ?_) (fun c5 => ?_)
    · refine sw_iconst (pc' := 16) (v := 1) rfl dX5_keepRest_15 (by decide +kernel) ?_
      refine sw_goto (tgt := 20) dX5_keepRest_16 (by decide +kernel) ?_
      refine sw_aload_n (pc' := 21) rfl dX5_keepRest_20 rfl ?_
      refine sw_iload_n (pc' := 22) rfl dX5_keepRest_21 rfl ?_
      refine sw_V (M' := MX5_isUnmade) (d' := d - 1) (bc' := 0) (bs' := 0) (ci := 6) (as := [_]) dX5_keepRest_22 w_1313 ok_X5_isUnmade (q_isUnmade_x hM (no_x (N := 5) (by decide +kernel) qk1) (by omega)) hM.ob rfl (by omega) (Nat.le_of_ble_eq_true rfl) (Nat.zero_le _) (Nat.zero_le _) (fun E h' n' _ z => det_x z) (det_k ?_)
      refine sw_V (M' := MX5_isStopped_) (d' := d - 1) (bc' := 0) (bs' := 0) (ci := 6) (as := [_, _]) dX5_keepRest_25 w_1215 ok_X5_isStopped_ (q_isStopped2 (a := true) (b := false) hM hA (by omega)) hM.ob rfl (by omega) (Nat.le_of_ble_eq_true rfl) (Nat.zero_le _) (Nat.zero_le _) (fun E h' n' _ z => rp_x z) (rp_k (fun p25 p25ρ p25τ p25M p25A p25F => ?_))
      obtain ⟨Gp25, hGp25, eGp25⟩ := p25M.out
      show SW _ _ _ _ _ _ _ (.int 1 :: _) _ _ _
      refine sw_if_eq (pc' := 31) (tgt := 33) rfl dX5_keepRest_28 (by decide +kernel) (fun c28 => ?_) (fun c28 => ?_)
      · exact absurd c28 (by decide +kernel)
      · refine sw_iconst (pc' := 32) (v := 0) rfl dX5_keepRest_31 (by decide +kernel) ?_
        refine sw_ret (v := some _) ⟨dX5_keepRest_32, _, rfl, rfl⟩ ?_
        rw [opKeepRest, onWk_x qk1]
        exact pm_x tc_1 p25M p25A p25F (Nat.le_refl _)
    · exact absurd c5 (by decide +kernel)
  have ovk := hI.2.2.2.2.2.2.1 k hk
  have hcwk := hI.1 _ ovk
  rcases Classical.em (b < 8) with qj | qj
  · refine sw_aload_n (pc' := 1) rfl dX5_keepRest_0 rfl ?_
    refine sw_iload_n (pc' := 2) rfl dX5_keepRest_1 rfl ?_
    refine sw_S (M' := MX5_isNoWalk) (d' := d - 1) (bc' := 0) (bs' := 0) (as := [_]) dX5_keepRest_2 w_1306 ok_X5_isNoWalk (q_isNoWalk (by omega)) (by omega) (Nat.le_of_ble_eq_true rfl) (Nat.zero_le _) (Nat.zero_le _) (fun E h' n' _ z => det_x z) (det_k ?_)
    rw [show inB (nI k) 0 5 = true from inB_k (N := 5) (by omega) (by decide +kernel)]
    show SW _ _ _ _ _ _ _ (.int 0 :: _) _ _ _
    refine sw_if_ne (pc' := 8) (tgt := 15) rfl dX5_keepRest_5 (by decide +kernel) (fun c5 => ?_) (fun c5 => ?_)
    · exact absurd c5 (by decide +kernel)
    · refine sw_iload_n (pc' := 9) rfl dX5_keepRest_8 rfl ?_
      refine sw_S (M' := MX5_isNoList) (d' := d - 1) (bc' := 0) (bs' := 0) (as := [_]) dX5_keepRest_9 w_1368 ok_X5_isNoList (q_isNoList (by omega)) (by omega) (Nat.le_of_ble_eq_true rfl) (Nat.zero_le _) (Nat.zero_le _) (fun E h' n' _ z => det_x z) (det_k ?_)
      rw [show inB b 8 10 = false from inB_f1 qj]
      show SW _ _ _ _ _ _ _ (.int 1 :: _) _ _ _
      refine sw_if_eq (pc' := 15) (tgt := 19) rfl dX5_keepRest_12 (by decide +kernel) (fun c12 => ?_) (fun c12 => ?_)
      · exact absurd c12 (by decide +kernel)
      · refine sw_iconst (pc' := 16) (v := 1) rfl dX5_keepRest_15 (by decide +kernel) ?_
        refine sw_goto (tgt := 20) dX5_keepRest_16 (by decide +kernel) ?_
        refine sw_aload_n (pc' := 21) rfl dX5_keepRest_20 rfl ?_
        refine sw_iload_n (pc' := 22) rfl dX5_keepRest_21 rfl ?_
        refine sw_V (M' := MX5_isUnmade) (d' := d - 1) (bc' := 0) (bs' := 0) (ci := 6) (as := [_]) dX5_keepRest_22 w_1313 ok_X5_isUnmade (q_isUnmade_k hM (k := k) (by omega) (hI.2.2.2.2.2.2.1 k (by omega)) (by omega)) hM.ob rfl (by omega) (Nat.le_of_ble_eq_true rfl) (Nat.zero_le _) (Nat.zero_le _) (fun E h' n' _ z => det_x z) (det_k ?_)
        refine sw_V (M' := MX5_isStopped_) (d' := d - 1) (bc' := 0) (bs' := 0) (ci := 6) (as := [_, _]) dX5_keepRest_25 w_1215 ok_X5_isStopped_ (q_isStopped2 (a := true) (b := (!(σ.2.2.2.2.1 k).1)) hM hA (by omega)) hM.ob rfl (by omega) (Nat.le_of_ble_eq_true rfl) (Nat.zero_le _) (Nat.zero_le _) (fun E h' n' _ z => rp_x z) (rp_k (fun p25 p25ρ p25τ p25M p25A p25F => ?_))
        obtain ⟨Gp25, hGp25, eGp25⟩ := p25M.out
        show SW _ _ _ _ _ _ _ (.int 1 :: _) _ _ _
        refine sw_if_eq (pc' := 31) (tgt := 33) rfl dX5_keepRest_28 (by decide +kernel) (fun c28 => ?_) (fun c28 => ?_)
        · exact absurd c28 (by decide +kernel)
        · refine sw_iconst (pc' := 32) (v := 0) rfl dX5_keepRest_31 (by decide +kernel) ?_
          refine sw_ret (v := some _) ⟨dX5_keepRest_32, _, rfl, rfl⟩ ?_
          rw [opKeepRest, onWk_k hk, if_li qj]
          exact pm_x tc_1 p25M p25A p25F (Nat.le_refl _)
  rcases idxN 11 (by decide +kernel) b with qj1 | ⟨j, hj, rfl⟩
  · refine sw_aload_n (pc' := 1) rfl dX5_keepRest_0 rfl ?_
    refine sw_iload_n (pc' := 2) rfl dX5_keepRest_1 rfl ?_
    refine sw_S (M' := MX5_isNoWalk) (d' := d - 1) (bc' := 0) (bs' := 0) (as := [_]) dX5_keepRest_2 w_1306 ok_X5_isNoWalk (q_isNoWalk (by omega)) (by omega) (Nat.le_of_ble_eq_true rfl) (Nat.zero_le _) (Nat.zero_le _) (fun E h' n' _ z => det_x z) (det_k ?_)
    rw [show inB (nI k) 0 5 = true from inB_k (N := 5) (by omega) (by decide +kernel)]
    show SW _ _ _ _ _ _ _ (.int 0 :: _) _ _ _
    refine sw_if_ne (pc' := 8) (tgt := 15) rfl dX5_keepRest_5 (by decide +kernel) (fun c5 => ?_) (fun c5 => ?_)
    · exact absurd c5 (by decide +kernel)
    · refine sw_iload_n (pc' := 9) rfl dX5_keepRest_8 rfl ?_
      refine sw_S (M' := MX5_isNoList) (d' := d - 1) (bc' := 0) (bs' := 0) (as := [_]) dX5_keepRest_9 w_1368 ok_X5_isNoList (q_isNoList (by omega)) (by omega) (Nat.le_of_ble_eq_true rfl) (Nat.zero_le _) (Nat.zero_le _) (fun E h' n' _ z => det_x z) (det_k ?_)
      rw [show inB b 8 10 = false from li_x qj qj1]
      show SW _ _ _ _ _ _ _ (.int 1 :: _) _ _ _
      refine sw_if_eq (pc' := 15) (tgt := 19) rfl dX5_keepRest_12 (by decide +kernel) (fun c12 => ?_) (fun c12 => ?_)
      · exact absurd c12 (by decide +kernel)
      · refine sw_iconst (pc' := 16) (v := 1) rfl dX5_keepRest_15 (by decide +kernel) ?_
        refine sw_goto (tgt := 20) dX5_keepRest_16 (by decide +kernel) ?_
        refine sw_aload_n (pc' := 21) rfl dX5_keepRest_20 rfl ?_
        refine sw_iload_n (pc' := 22) rfl dX5_keepRest_21 rfl ?_
        refine sw_V (M' := MX5_isUnmade) (d' := d - 1) (bc' := 0) (bs' := 0) (ci := 6) (as := [_]) dX5_keepRest_22 w_1313 ok_X5_isUnmade (q_isUnmade_k hM (k := k) (by omega) (hI.2.2.2.2.2.2.1 k (by omega)) (by omega)) hM.ob rfl (by omega) (Nat.le_of_ble_eq_true rfl) (Nat.zero_le _) (Nat.zero_le _) (fun E h' n' _ z => det_x z) (det_k ?_)
        refine sw_V (M' := MX5_isStopped_) (d' := d - 1) (bc' := 0) (bs' := 0) (ci := 6) (as := [_, _]) dX5_keepRest_25 w_1215 ok_X5_isStopped_ (q_isStopped2 (a := true) (b := (!(σ.2.2.2.2.1 k).1)) hM hA (by omega)) hM.ob rfl (by omega) (Nat.le_of_ble_eq_true rfl) (Nat.zero_le _) (Nat.zero_le _) (fun E h' n' _ z => rp_x z) (rp_k (fun p25 p25ρ p25τ p25M p25A p25F => ?_))
        obtain ⟨Gp25, hGp25, eGp25⟩ := p25M.out
        show SW _ _ _ _ _ _ _ (.int 1 :: _) _ _ _
        refine sw_if_eq (pc' := 31) (tgt := 33) rfl dX5_keepRest_28 (by decide +kernel) (fun c28 => ?_) (fun c28 => ?_)
        · exact absurd c28 (by decide +kernel)
        · refine sw_iconst (pc' := 32) (v := 0) rfl dX5_keepRest_31 (by decide +kernel) ?_
          refine sw_ret (v := some _) ⟨dX5_keepRest_32, _, rfl, rfl⟩ ?_
          rw [opKeepRest, onWk_k hk, onLi_z qj qj1]
          exact pm_x tc_1 p25M p25A p25F (Nat.le_refl _)
  have hcj := hI.1 j hj
  rcases Classical.em ((σ.2.2.2.2.1 k).1 = false) with qm | qm
  · refine sw_aload_n (pc' := 1) rfl dX5_keepRest_0 rfl ?_
    refine sw_iload_n (pc' := 2) rfl dX5_keepRest_1 rfl ?_
    refine sw_S (M' := MX5_isNoWalk) (d' := d - 1) (bc' := 0) (bs' := 0) (as := [_]) dX5_keepRest_2 w_1306 ok_X5_isNoWalk (q_isNoWalk (by omega)) (by omega) (Nat.le_of_ble_eq_true rfl) (Nat.zero_le _) (Nat.zero_le _) (fun E h' n' _ z => det_x z) (det_k ?_)
    rw [show inB (nI k) 0 5 = true from inB_k (N := 5) (by omega) (by decide +kernel)]
    show SW _ _ _ _ _ _ _ (.int 0 :: _) _ _ _
    refine sw_if_ne (pc' := 8) (tgt := 15) rfl dX5_keepRest_5 (by decide +kernel) (fun c5 => ?_) (fun c5 => ?_)
    · exact absurd c5 (by decide +kernel)
    · refine sw_iload_n (pc' := 9) rfl dX5_keepRest_8 rfl ?_
      refine sw_S (M' := MX5_isNoList) (d' := d - 1) (bc' := 0) (bs' := 0) (as := [_]) dX5_keepRest_9 w_1368 ok_X5_isNoList (q_isNoList (by omega)) (by omega) (Nat.le_of_ble_eq_true rfl) (Nat.zero_le _) (Nat.zero_le _) (fun E h' n' _ z => det_x z) (det_k ?_)
      rw [show inB (nI j) 8 10 = true from li_k qj hj]
      show SW _ _ _ _ _ _ _ (.int 0 :: _) _ _ _
      refine sw_if_eq (pc' := 15) (tgt := 19) rfl dX5_keepRest_12 (by decide +kernel) (fun c12 => ?_) (fun c12 => ?_)
      · refine sw_iconst (pc' := 20) (v := 0) rfl dX5_keepRest_19 (by decide +kernel) ?_
        refine sw_aload_n (pc' := 21) rfl dX5_keepRest_20 rfl ?_
        refine sw_iload_n (pc' := 22) rfl dX5_keepRest_21 rfl ?_
        refine sw_V (M' := MX5_isUnmade) (d' := d - 1) (bc' := 0) (bs' := 0) (ci := 6) (as := [_]) dX5_keepRest_22 w_1313 ok_X5_isUnmade (q_isUnmade_k hM (k := k) (by omega) (hI.2.2.2.2.2.2.1 k (by omega)) (by omega)) hM.ob rfl (by omega) (Nat.le_of_ble_eq_true rfl) (Nat.zero_le _) (Nat.zero_le _) (fun E h' n' _ z => det_x z) (det_k ?_)
        rw [show (σ.2.2.2.2.1 k).1 = false from qm]
        show SW _ _ _ _ _ _ _ (.int 1 :: _) _ _ _
        refine sw_V (M' := MX5_isStopped_) (d' := d - 1) (bc' := 0) (bs' := 0) (ci := 6) (as := [_, _]) dX5_keepRest_25 w_1215 ok_X5_isStopped_ (q_isStopped2 (a := false) (b := true) hM hA (by omega)) hM.ob rfl (by omega) (Nat.le_of_ble_eq_true rfl) (Nat.zero_le _) (Nat.zero_le _) (fun E h' n' _ z => rp_x z) (rp_k (fun p25 p25ρ p25τ p25M p25A p25F => ?_))
        obtain ⟨Gp25, hGp25, eGp25⟩ := p25M.out
        show SW _ _ _ _ _ _ _ (.int 1 :: _) _ _ _
        refine sw_if_eq (pc' := 31) (tgt := 33) rfl dX5_keepRest_28 (by decide +kernel) (fun c28 => ?_) (fun c28 => ?_)
        · exact absurd c28 (by decide +kernel)
        · refine sw_iconst (pc' := 32) (v := 0) rfl dX5_keepRest_31 (by decide +kernel) ?_
          refine sw_ret (v := some _) ⟨dX5_keepRest_32, _, rfl, rfl⟩ ?_
          rw [opKeepRest, onWk_k hk, onLi_k qj hj, if_pos qm]
          exact pm_x (tc_2 sSI) p25M p25A p25F (Nat.le_refl _)
      · exact absurd c12 (by decide +kernel)
  refine sw_aload_n (pc' := 1) rfl dX5_keepRest_0 rfl ?_
  refine sw_iload_n (pc' := 2) rfl dX5_keepRest_1 rfl ?_
  refine sw_S (M' := MX5_isNoWalk) (d' := d - 1) (bc' := 0) (bs' := 0) (as := [_]) dX5_keepRest_2 w_1306 ok_X5_isNoWalk (q_isNoWalk (by omega)) (by omega) (Nat.le_of_ble_eq_true rfl) (Nat.zero_le _) (Nat.zero_le _) (fun E h' n' _ z => det_x z) (det_k ?_)
  rw [show inB (nI k) 0 5 = true from inB_k (N := 5) (by omega) (by decide +kernel)]
  show SW _ _ _ _ _ _ _ (.int 0 :: _) _ _ _
  refine sw_if_ne (pc' := 8) (tgt := 15) rfl dX5_keepRest_5 (by decide +kernel) (fun c5 => ?_) (fun c5 => ?_)
  · exact absurd c5 (by decide +kernel)
  · refine sw_iload_n (pc' := 9) rfl dX5_keepRest_8 rfl ?_
    refine sw_S (M' := MX5_isNoList) (d' := d - 1) (bc' := 0) (bs' := 0) (as := [_]) dX5_keepRest_9 w_1368 ok_X5_isNoList (q_isNoList (by omega)) (by omega) (Nat.le_of_ble_eq_true rfl) (Nat.zero_le _) (Nat.zero_le _) (fun E h' n' _ z => det_x z) (det_k ?_)
    rw [show inB (nI j) 8 10 = true from li_k qj hj]
    show SW _ _ _ _ _ _ _ (.int 0 :: _) _ _ _
    refine sw_if_eq (pc' := 15) (tgt := 19) rfl dX5_keepRest_12 (by decide +kernel) (fun c12 => ?_) (fun c12 => ?_)
    · refine sw_iconst (pc' := 20) (v := 0) rfl dX5_keepRest_19 (by decide +kernel) ?_
      refine sw_aload_n (pc' := 21) rfl dX5_keepRest_20 rfl ?_
      refine sw_iload_n (pc' := 22) rfl dX5_keepRest_21 rfl ?_
      refine sw_V (M' := MX5_isUnmade) (d' := d - 1) (bc' := 0) (bs' := 0) (ci := 6) (as := [_]) dX5_keepRest_22 w_1313 ok_X5_isUnmade (q_isUnmade_k hM (k := k) (by omega) (hI.2.2.2.2.2.2.1 k (by omega)) (by omega)) hM.ob rfl (by omega) (Nat.le_of_ble_eq_true rfl) (Nat.zero_le _) (Nat.zero_le _) (fun E h' n' _ z => det_x z) (det_k ?_)
      rw [show (σ.2.2.2.2.1 k).1 = true from (mkT qm)]
      show SW _ _ _ _ _ _ _ (.int 0 :: _) _ _ _
      refine sw_V (M' := MX5_isStopped_) (d' := d - 1) (bc' := 0) (bs' := 0) (ci := 6) (as := [_, _]) dX5_keepRest_25 w_1215 ok_X5_isStopped_ (q_isStopped2 (a := false) (b := false) hM hA (by omega)) hM.ob rfl (by omega) (Nat.le_of_ble_eq_true rfl) (Nat.zero_le _) (Nat.zero_le _) (fun E h' n' _ z => rp_x z) (rp_k (fun p25 p25ρ p25τ p25M p25A p25F => ?_))
      obtain ⟨Gp25, hGp25, eGp25⟩ := p25M.out
      show SW _ _ _ _ _ _ _ (.int 0 :: _) _ _ _
      refine sw_if_eq (pc' := 31) (tgt := 33) rfl dX5_keepRest_28 (by decide +kernel) (fun c28 => ?_) (fun c28 => ?_)
      · refine sw_aload_n (pc' := 34) rfl dX5_keepRest_33 rfl ?_
        refine sw_iload_n (pc' := 35) rfl dX5_keepRest_34 rfl ?_
        refine sw_V (M' := MX5_isStale) (d' := d - 1) (bc' := 0) (bs' := 0) (ci := 6) (as := [_]) dX5_keepRest_35 w_1317 ok_X5_isStale (q_isStale p25M (k := k) (by omega) (mkT qm) (hI.2.2.2.2.2.2.1 k (by omega))) p25M.ob rfl (by omega) (Nat.le_of_ble_eq_true rfl) (Nat.zero_le _) (Nat.zero_le _) (fun E h' n' _ z => det_x z) (det_k ?_)
        refine sw_if_ne (pc' := 41) (tgt := 61) rfl dX5_keepRest_38 (by decide +kernel) (fun c38 => ?_) (fun c38 => ?_)
        · refine sw_aload_n (pc' := 62) rfl dX5_keepRest_61 rfl ?_
          refine sw_V (M' := MX5_no) (d' := d - 1) (bc' := 0) (bs' := 0) (ci := 6) (as := []) dX5_keepRest_62 w_1184 ok_X5_no (q_no p25M p25A) p25M.ob rfl (by omega) (Nat.le_of_ble_eq_true rfl) (Nat.zero_le _) (Nat.zero_le _) (fun E h' n' _ z => rp_x z) (rp_k (fun p62 p62ρ p62τ p62M p62A p62F => ?_))
          obtain ⟨Gp62, hGp62, eGp62⟩ := p62M.out
          refine sw_goto (tgt := 78) dX5_keepRest_65 (by decide +kernel) ?_
          refine sw_ret (v := some _) ⟨dX5_keepRest_78, _, rfl, rfl⟩ ?_
          rw [opKeepRest, onWk_k hk, onLi_k qj hj, if_neg qm, if_pos (Or.inl (wGa_s (bI_1 c38)))]
          exact pm_k p62M p62A (p25F.tr p62F (Nat.le_refl _)) (Nat.le_refl _)
        · refine sw_aload_n (pc' := 42) rfl dX5_keepRest_41 rfl ?_
          refine sw_getf (ci := 6) (k := 7) (pc' := 45) rfl dX5_keepRest_42 (by decide +kernel) w_1120 p25M.ob rfl ?_
          refine sw_iload_n (pc' := 46) rfl dX5_keepRest_45 rfl ?_
          refine sw_iald (j := k) (pc' := 47) rfl dX5_keepRest_46 p25M.hw rfl (by omega) (by decide +kernel) ?_
          refine sw_iconst (pc' := 48) (v := 1) rfl dX5_keepRest_47 (by decide +kernel) ?_
          refine sw_icmp_eq (pc' := 51) (tgt := 61) rfl dX5_keepRest_48 (by decide +kernel) (fun c48 => ?_) (fun c48 => ?_)
          · refine sw_aload_n (pc' := 62) rfl dX5_keepRest_61 rfl ?_
            refine sw_V (M' := MX5_no) (d' := d - 1) (bc' := 0) (bs' := 0) (ci := 6) (as := []) dX5_keepRest_62 w_1184 ok_X5_no (q_no p25M p25A) p25M.ob rfl (by omega) (Nat.le_of_ble_eq_true rfl) (Nat.zero_le _) (Nat.zero_le _) (fun E h' n' _ z => rp_x z) (rp_k (fun p62 p62ρ p62τ p62M p62A p62F => ?_))
            obtain ⟨Gp62, hGp62, eGp62⟩ := p62M.out
            refine sw_goto (tgt := 78) dX5_keepRest_65 (by decide +kernel) ?_
            refine sw_ret (v := some _) ⟨dX5_keepRest_78, _, rfl, rfl⟩ ?_
            rw [opKeepRest, onWk_k hk, onLi_k qj hj, if_neg qm, if_pos (Or.inl (wGa_1 c48))]
            exact pm_k p62M p62A (p25F.tr p62F (Nat.le_refl _)) (Nat.le_refl _)
          · refine sw_aload_n (pc' := 52) rfl dX5_keepRest_51 rfl ?_
            refine sw_getf (ci := 6) (k := 6) (pc' := 55) rfl dX5_keepRest_52 (by decide +kernel) w_1119 p25M.ob rfl ?_
            refine sw_iload_n (pc' := 56) rfl dX5_keepRest_55 rfl ?_
            refine sw_iald (j := k) (pc' := 57) rfl dX5_keepRest_56 p25M.sh rfl (by omega) (by decide +kernel) ?_
            rw [shF_m (k := k) (by omega) (mkT qm)]
            refine sw_iload_n (pc' := 58) rfl dX5_keepRest_57 rfl ?_
            refine sw_icmp_ne (pc' := 61) (tgt := 68) rfl dX5_keepRest_58 (by decide +kernel) (fun c58 => ?_) (fun c58 => ?_)
            · obtain ⟨A, eA, hA1, hA2⟩ := hI.2.2.2.2.2.2.2 k hk (mkT qm) (bI_0 c38)
              refine sw_aload_n (pc' := 69) rfl dX5_keepRest_68 rfl ?_
              refine sw_iload_n (pc' := 70) rfl dX5_keepRest_69 rfl ?_
              refine sw_aload_n (pc' := 71) rfl dX5_keepRest_70 rfl ?_
              refine sw_iload_n (pc' := 72) rfl dX5_keepRest_71 rfl ?_
              refine sw_V (M' := MX5_left) (d' := d - 1) (bc' := 1) (bs' := 12) (ci := 6) (as := [_]) dX5_keepRest_72 w_1347 ok_X5_left (q_left p25M p25A (k := k) (by omega) (mkT qm) (hI.2.2.2.2.2.2.1 k (by omega)) (hI.1 _ (hI.2.2.2.2.2.2.1 k (by omega))) eA hA1 (by omega) (by omega) (by omega) (by omega)) p25M.ob rfl (by omega) (Nat.le_of_ble_eq_true rfl) (by omega) (by omega) (fun E h' n' _ z => nl_x z) (nl_k (fun p72 p72ρ p72τ p72f p72M p72A p72N p72g p72F => ?_))
              obtain ⟨Gp72, hGp72, eGp72⟩ := p72M.out
              refine sw_V (M' := MX5_made) (d' := d - 1) (bc' := 0) (bs' := 0) (ci := 6) (as := [_, _]) dX5_keepRest_75 w_1371 ok_X5_made (q_made p72M p72A (k := j) (f := blN (σ.1 j) (σ.1 (wO σ k)) A (σ.2.1 (wO σ k) - A)) (by omega) (by omega) p72N (by omega) (fun i hi => (p72g i hi).trans (blN_in hi).symm)) p72M.ob rfl (by omega) (Nat.le_of_ble_eq_true rfl) (Nat.zero_le _) (Nat.zero_le _) (fun E h' n' _ z => rp_x z) (rp_k (fun p75 p75ρ p75τ p75M p75A p75F => ?_))
              obtain ⟨Gp75, hGp75, eGp75⟩ := p75M.out
              refine sw_ret (v := some _) ⟨dX5_keepRest_78, _, rfl, rfl⟩ ?_
              rw [opKeepRest, onWk_k hk, onLi_k qj hj, if_neg qm, if_neg (fun q => q.elim (fun e => Bool.noConfusion (e.symm.trans (wGa_t (bI_0 c38) c48))) c58), wGu_eq (bI_0 c38) hcwk eA hA1 (by omega), tcl (by omega) eA]
              exact pm_k p75M p75A ((p25F.tr p72F (Nat.le_refl _)).tr p75F (Nat.le_succ _)) (Nat.le_succ _)
            · refine sw_aload_n (pc' := 62) rfl dX5_keepRest_61 rfl ?_
              refine sw_V (M' := MX5_no) (d' := d - 1) (bc' := 0) (bs' := 0) (ci := 6) (as := []) dX5_keepRest_62 w_1184 ok_X5_no (q_no p25M p25A) p25M.ob rfl (by omega) (Nat.le_of_ble_eq_true rfl) (Nat.zero_le _) (Nat.zero_le _) (fun E h' n' _ z => rp_x z) (rp_k (fun p62 p62ρ p62τ p62M p62A p62F => ?_))
              obtain ⟨Gp62, hGp62, eGp62⟩ := p62M.out
              refine sw_goto (tgt := 78) dX5_keepRest_65 (by decide +kernel) ?_
              refine sw_ret (v := some _) ⟨dX5_keepRest_78, _, rfl, rfl⟩ ?_
              rw [opKeepRest, onWk_k hk, onLi_k qj hj, if_neg qm, if_pos (Or.inr c58)]
              exact pm_k p62M p62A (p25F.tr p62F (Nat.le_refl _)) (Nat.le_refl _)
      · exact absurd c28 (by decide +kernel)
    · exact absurd c12 (by decide +kernel)
end
section
/-! 44.model -/
/-! the model: fill, replace, copies, skip -/
theorem fiN_s2 {f : Nat → Int32} {x : Int32} {j : Nat} : up (fiN f x j) j x = fiN f x (j + 1) := by
  funext q
  unfold up fiN
  by_cases e : q = j
  · rw [if_pos e, if_pos (by omega)]
  · rw [if_neg e]
    by_cases g : q < j
    · rw [if_pos g, if_pos (by omega)]
    · rw [if_neg g, if_neg (by omega)]
theorem fiN_z {f : Nat → Int32} {x : Int32} : fiN f x 0 = f := by funext q; unfold fiN; rw [if_neg (Nat.not_lt_zero q)]
theorem fiN_at {f g : Nat → Int32} {x : Int32} {c : Nat} : ∀ j, j < c → fiN g x c j = fiN f x c j := by intro j hj; unfold fiN; rw [if_pos hj, if_pos hj]
theorem rpF_z {f : Nat → Int32} {x y : Int32} : rpF f x y 0 = f := by funext q; unfold rpF; rw [if_neg (fun g => Nat.not_lt_zero q g.1)]
theorem rpF_a {f : Nat → Int32} {x y : Int32} {j : Nat} : rpF f x y j j = f j := by unfold rpF; rw [if_neg (fun g => Nat.lt_irrefl j g.1)]
theorem rpF_p {f : Nat → Int32} {x y : Int32} {j : Nat} (h : f j = x) : up (rpF f x y j) j y = rpF f x y (j + 1) := by
  funext q
  unfold up rpF
  by_cases e : q = j
  · rw [if_pos e, e, if_pos ⟨by omega, h⟩]
  · rw [if_neg e]
    by_cases g : q < j ∧ f q = x
    · rw [if_pos g, if_pos ⟨by omega, g.2⟩]
    · rw [if_neg g, if_neg (fun z => g ⟨by omega, z.2⟩)]
theorem rpF_m2 {f : Nat → Int32} {x y : Int32} {j : Nat} (h : ¬ f j = x) : up (rpF f x y j) j (f j) = rpF f x y (j + 1) := by
  funext q
  unfold up rpF
  by_cases e : q = j
  · rw [if_pos e, e, if_neg (fun z => h z.2)]
  · rw [if_neg e]
    by_cases g : q < j ∧ f q = x
    · rw [if_pos g, if_pos ⟨by omega, g.2⟩]
    · rw [if_neg g, if_neg (fun z => g ⟨by omega, z.2⟩)]
theorem rpF_at {f g : Nat → Int32} {x y : Int32} {c : Nat} (h : ∀ j, j < c → g j = f j) : ∀ j, j < c → rpF g x y c j = rpF f x y c j := by intro j hj; unfold rpF; rw [h j hj]
theorem rowE {k : Nat} (hk : k < 11) (h : ¬ kP (kdO k) = false) : kE (kdO k) = false ∧ ¬ kdO k = 2 := by revert k; decide
theorem rowU {σ : CS} {k : Nat} {x : Int32} (hk : k < 11) (h : ¬ kP (kdO k) = false) : ldU σ k x = la2 σ k (σ.2.1 k) x := ldU_p (by rw [ldY, (rowE hk h).1]; rfl) (if_neg (rowE hk h).2)
theorem la2_c {σ : CS} {k p : Nat} {x : Int32} : (la2 σ k p x).2.1 k = σ.2.1 k + 1 := up_s
theorem roomS {c m : Nat} (hc : c ≤ 12) (hm : m ≤ 12) : 12 < nI c + nI m ↔ 12 < c + m := by
  rw [nI_add]
  exact nI_ltI (a := 12) (by decide +kernel) (by omega)
theorem le12 {c : Nat} (h : c < 2 ^ 31) : nI c ≤ 12 ↔ c ≤ 12 := nI_leI (b := 12) h (by decide +kernel)
theorem wHM_i {σ : CS} {k A : Nat} (eA : wAh σ k = nI A) : decide (wAh σ k < nI (σ.2.1 (wO σ k))) = decide (nI A < nI (σ.2.1 (wO σ k))) := by rw [eA]
/-- a weaker end -/
theorem SW.post {SR : SRT} {M : MI} {d bc bs pc n : Nat} {lv : List (Nat × Value)} {st : List Value} {h : AH} {Post Post' : ARes → AH → Nat → Prop} (k : SW SR M d bc bs pc lv st h n Post) (hp : ∀ r h' n', Post r h' n' → Post' r h' n') : SW SR M d bc bs pc lv st h n Post' := by
  intro G p l e R s m args below meth c A ad0 n0 Q hc hr he
  exact k G p l e R s m args below meth c A ad0 n0 Q hc hr ⟨fun H locs cells slots ls ad h n v pc h1 h2 h3 h4 => he.1 H locs cells slots ls ad h n v pc h1 h2 h3 (hp _ _ _ h4), fun H locs ad h n E h1 h2 h3 => he.2 H locs ad h n E h1 h2 (hp _ _ _ h3)⟩
theorem ql_fill {h : AH} {d bc bs n : Nat} {ρ : Nat → Nat → Int32} {τ : Nat → Int32} {σ : CS} {th : Int32} {x : Int32} {Post : ARes → AH → Nat → Prop} (hM : MM h ρ τ σ th) (hA : AG ρ τ σ) {k : Nat} (hk : k < 11) (hc : σ.2.1 k ≤ 12) (fq : ∀ h' ρ' , MM h' ρ' τ (sU σ k (fiN (σ.1 k) x (σ.2.1 k)) (σ.2.1 k) (σ.2.2.1 k) (σ.2.2.2.1 k + 1)) th → AG ρ' τ (sU σ k (fiN (σ.1 k) x (σ.2.1 k)) (σ.2.1 k) (σ.2.2.1 k) (σ.2.2.2.1 k + 1)) → FrM h h' n → Post (.inl (some (.int (nI (σ.2.1 k))))) h' n) (m : Nat) : ∀ (j : Nat) (g : AH), j + m = σ.2.1 k → g (137 + k) = .inl (0, 12, .inl (fiN (ρ k) x j)) → (∀ i, i ≠ 137 + k → g i = h i) → SW SR0 MX5_fill d bc bs 19 [(3, .int (nI j)), (0, .ref 135), (1, .int (nI k)), (2, .int x)] [] g n Post := by
  obtain ⟨G0, hG0, eG0⟩ := hM.out
  induction m with
  | zero =>
    intro j g hj hr hF
    have hjc : j = σ.2.1 k := by omega
    subst hjc
    refine sw_iload_n (pc' := 20) rfl dX5_fill_19 rfl ?_
    refine sw_aload_n (pc' := 21) rfl dX5_fill_20 rfl ?_
    refine sw_getf (ci := 6) (k := 4) (pc' := 24) rfl dX5_fill_21 (by decide +kernel) w_1117 ((hF 135 (by omega)).trans hM.ob) rfl ?_
    refine sw_iload_n (pc' := 25) rfl dX5_fill_24 rfl ?_
    refine sw_iald (j := k) (pc' := 26) rfl dX5_fill_25 ((hF 148 (by omega)).trans hM.sz) rfl (by omega) (by decide +kernel) ?_
    refine sw_icmp_ge (pc' := 29) (tgt := 44) rfl dX5_fill_26 (by decide +kernel) (fun c26 => ?_) (fun c26 => ?_)
    · refine sw_aload_n (pc' := 45) rfl dX5_fill_44 rfl ?_
      refine sw_getf (ci := 6) (k := 12) (pc' := 48) rfl dX5_fill_45 (by decide +kernel) w_1125 ((hF 135 (by omega)).trans hM.ob) rfl ?_
      refine sw_iload_n (pc' := 49) rfl dX5_fill_48 rfl ?_
      refine sw_dup2 (pc' := 50) rfl dX5_fill_49 rfl rfl ?_
      refine sw_iald (j := k) (pc' := 51) rfl dX5_fill_50 ((hF 156 (by omega)).trans hM.tu) rfl (by omega) (by decide +kernel) ?_
      refine sw_iconst (pc' := 52) (v := 1) rfl dX5_fill_51 (by decide +kernel) ?_
      refine sw_iadd (pc' := 53) rfl dX5_fill_52 ?_
      refine sw_iast (j := k) (pc' := 54) rfl dX5_fill_53 ((hF 156 (by omega)).trans hM.tu) (by decide +kernel) rfl (by omega) (by decide +kernel) ?_
      refine sw_nm (fun g1 eg1 => ?_)
      have zg1 := (congrFun eg1 156).trans (up_s (h := g) (i := 156))
      refine sw_aload_n (pc' := 55) rfl dX5_fill_54 rfl ?_
      refine sw_getf (ci := 6) (k := 4) (pc' := 58) rfl dX5_fill_55 (by decide +kernel) w_1117 (((congrFun eg1 135).trans (up_n (by omega))).trans ((hF 135 (by omega)).trans hM.ob)) rfl ?_
      refine sw_iload_n (pc' := 59) rfl dX5_fill_58 rfl ?_
      refine sw_iald (j := k) (pc' := 60) rfl dX5_fill_59 (((congrFun eg1 148).trans (up_n (by omega))).trans ((hF 148 (by omega)).trans hM.sz)) rfl (by omega) (by decide +kernel) ?_
      refine sw_ret (v := some _) ⟨dX5_fill_60, _, rfl, rfl⟩ ?_
      exact fq g1 _ (hM.rwT hk (((congrFun eg1 (137 + k)).trans (up_n (by omega))).trans hr) zg1 (fun i h1 h2 => (congrFun eg1 i).trans ((up_n h2).trans (hF i h1)))) (hA.shU (fiN_at)) (FrM.of1 (fun i q => (congrFun eg1 i).trans ((up_n (by omega)).trans (hF i (by omega)))))
    · exact absurd (Int32.le_refl _) c26
  | succ m ih =>
    intro j g hj hr hF
    refine sw_iload_n (pc' := 20) rfl dX5_fill_19 rfl ?_
    refine sw_aload_n (pc' := 21) rfl dX5_fill_20 rfl ?_
    refine sw_getf (ci := 6) (k := 4) (pc' := 24) rfl dX5_fill_21 (by decide +kernel) w_1117 ((hF 135 (by omega)).trans hM.ob) rfl ?_
    refine sw_iload_n (pc' := 25) rfl dX5_fill_24 rfl ?_
    refine sw_iald (j := k) (pc' := 26) rfl dX5_fill_25 ((hF 148 (by omega)).trans hM.sz) rfl (by omega) (by decide +kernel) ?_
    refine sw_icmp_ge (pc' := 29) (tgt := 44) rfl dX5_fill_26 (by decide +kernel) (fun c26 => ?_) (fun c26 => ?_)
    · exact absurd c26 (nI_ge (by omega) (by omega))
    · refine sw_aload_n (pc' := 30) rfl dX5_fill_29 rfl ?_
      refine sw_getf (ci := 6) (k := 3) (pc' := 33) rfl dX5_fill_30 (by decide +kernel) w_1116 ((hF 135 (by omega)).trans hM.ob) rfl ?_
      refine sw_iload_n (pc' := 34) rfl dX5_fill_33 rfl ?_
      refine sw_aald (j := k) (pc' := 35) rfl dX5_fill_34 ((hF 136 (by omega)).trans hG0) (by decide +kernel) (by decide +kernel) rfl (by omega) (by decide +kernel) (eG0 k (by omega)) ?_
      refine sw_iload_n (pc' := 36) rfl dX5_fill_35 rfl ?_
      refine sw_iload_n (pc' := 37) rfl dX5_fill_36 rfl ?_
      refine sw_iast (j := j) (pc' := 38) rfl dX5_fill_37 hr (by show 100 ≤ _; omega) rfl (by omega) (by decide +kernel) ?_
      refine sw_nm (fun g2 eg2 => ?_)
      have zg2 := (congrFun eg2 (137 + k)).trans (up_s (h := g) (i := (137 + k)))
      refine sw_iinc (pc' := 41) (lv' := [(3, _), (0, _), (1, _), (2, _)]) (v := nI (j + 1)) rfl dX5_fill_38 rfl (nI_1 j) (by decide +kernel) rfl ?_
      refine sw_goto (tgt := 19) dX5_fill_41 (by decide +kernel) ?_
      exact ih (j + 1) g2 (by omega) (fiN_s2 ▸ zg2) (fun i h1 => (congrFun eg2 i).trans ((up_n h1).trans (hF i h1)))
theorem q_fill {h : AH} {d bc bs n : Nat} {σ : CS} {th : Int32} {a x : Int32} (hR : RMo h σ th) (hI : Iv σ) (hn : 159 ≤ n) (hd : 8 ≤ d) (h1 : 1 ≤ bc) (h2 : 12 ≤ bs)  : SM SR0 MX5_fill d bc bs [.ref 135, .int a, .int x] h n (PM h n (tc sI sA) (opFill σ a x)) := by
  obtain ⟨ρ, τ, hM, hA⟩ := hR
  obtain ⟨G0, hG0, eG0⟩ := hM.out
  refine sm_of pn_OverwalksModel rfl (Nat.le_of_ble_eq_true rfl) ?_
  rcases idxN 11 (by decide +kernel) a with qk1 | ⟨k, hk, rfl⟩
  · refine sw_aload_n (pc' := 1) rfl dX5_fill_0 rfl ?_
    refine sw_iload_n (pc' := 2) rfl dX5_fill_1 rfl ?_
    refine sw_S (M' := MX5_isNoRow) (d' := d - 1) (bc' := 0) (bs' := 0) (as := [_]) dX5_fill_2 w_1267 ok_X5_isNoRow (q_isNoRow (by omega)) (by omega) (Nat.le_of_ble_eq_true rfl) (Nat.zero_le _) (Nat.zero_le _) (fun E h' n' _ z => det_x z) (det_k ?_)
    rw [show nrB a = true from nrB_x qk1]
    show SW _ _ _ _ _ _ _ (.int 1 :: _) _ _ _
    refine sw_iload_n (pc' := 6) rfl dX5_fill_5 rfl ?_
    refine sw_S (M' := MX5_isNoThing) (d' := d - 1) (bc' := 0) (bs' := 0) (as := [_]) dX5_fill_6 w_1171 ok_X5_isNoThing (q_isNoThing (by omega)) (by omega) (Nat.le_of_ble_eq_true rfl) (Nat.zero_le _) (Nat.zero_le _) (fun E h' n' _ z => det_x z) (det_k ?_)
    refine sw_V (M' := MX5_isStopped_) (d' := d - 1) (bc' := 0) (bs' := 0) (ci := 6) (as := [_, _]) dX5_fill_9 w_1215 ok_X5_isStopped_ (q_isStopped2 (a := true) (b := (!inB x 0 100)) hM hA (by omega)) hM.ob rfl (by omega) (Nat.le_of_ble_eq_true rfl) (Nat.zero_le _) (Nat.zero_le _) (fun E h' n' _ z => rp_x z) (rp_k (fun p9 p9ρ p9τ p9M p9A p9F => ?_))
    obtain ⟨Gp9, hGp9, eGp9⟩ := p9M.out
    show SW _ _ _ _ _ _ _ (.int 1 :: _) _ _ _
    refine sw_if_eq (pc' := 15) (tgt := 17) rfl dX5_fill_12 (by decide +kernel) (fun c12 => ?_) (fun c12 => ?_)
    · exact absurd c12 (by decide +kernel)
    · refine sw_iconst (pc' := 16) (v := 0) rfl dX5_fill_15 (by decide +kernel) ?_
      refine sw_ret (v := some _) ⟨dX5_fill_16, _, rfl, rfl⟩ ?_
      rw [opFill, onRw_x qk1]
      exact pm_x tc_1 p9M p9A p9F (Nat.le_refl _)
  rcases Classical.em (kP (kdO k) = false) with qk | qk
  · refine sw_aload_n (pc' := 1) rfl dX5_fill_0 rfl ?_
    refine sw_iload_n (pc' := 2) rfl dX5_fill_1 rfl ?_
    refine sw_S (M' := MX5_isNoRow) (d' := d - 1) (bc' := 0) (bs' := 0) (as := [_]) dX5_fill_2 w_1267 ok_X5_isNoRow (q_isNoRow (by omega)) (by omega) (Nat.le_of_ble_eq_true rfl) (Nat.zero_le _) (Nat.zero_le _) (fun E h' n' _ z => det_x z) (det_k ?_)
    rw [show nrB (nI k) = true from nrB_y hk qk]
    show SW _ _ _ _ _ _ _ (.int 1 :: _) _ _ _
    refine sw_iload_n (pc' := 6) rfl dX5_fill_5 rfl ?_
    refine sw_S (M' := MX5_isNoThing) (d' := d - 1) (bc' := 0) (bs' := 0) (as := [_]) dX5_fill_6 w_1171 ok_X5_isNoThing (q_isNoThing (by omega)) (by omega) (Nat.le_of_ble_eq_true rfl) (Nat.zero_le _) (Nat.zero_le _) (fun E h' n' _ z => det_x z) (det_k ?_)
    refine sw_V (M' := MX5_isStopped_) (d' := d - 1) (bc' := 0) (bs' := 0) (ci := 6) (as := [_, _]) dX5_fill_9 w_1215 ok_X5_isStopped_ (q_isStopped2 (a := true) (b := (!inB x 0 100)) hM hA (by omega)) hM.ob rfl (by omega) (Nat.le_of_ble_eq_true rfl) (Nat.zero_le _) (Nat.zero_le _) (fun E h' n' _ z => rp_x z) (rp_k (fun p9 p9ρ p9τ p9M p9A p9F => ?_))
    obtain ⟨Gp9, hGp9, eGp9⟩ := p9M.out
    show SW _ _ _ _ _ _ _ (.int 1 :: _) _ _ _
    refine sw_if_eq (pc' := 15) (tgt := 17) rfl dX5_fill_12 (by decide +kernel) (fun c12 => ?_) (fun c12 => ?_)
    · exact absurd c12 (by decide +kernel)
    · refine sw_iconst (pc' := 16) (v := 0) rfl dX5_fill_15 (by decide +kernel) ?_
      refine sw_ret (v := some _) ⟨dX5_fill_16, _, rfl, rfl⟩ ?_
      rw [opFill, onRw_y hk qk]
      exact pm_x tc_1 p9M p9A p9F (Nat.le_refl _)
  have hck := hI.1 k hk
  rcases Classical.em (x < 0 ∨ 100 < x) with qx | qx
  · refine sw_aload_n (pc' := 1) rfl dX5_fill_0 rfl ?_
    refine sw_iload_n (pc' := 2) rfl dX5_fill_1 rfl ?_
    refine sw_S (M' := MX5_isNoRow) (d' := d - 1) (bc' := 0) (bs' := 0) (as := [_]) dX5_fill_2 w_1267 ok_X5_isNoRow (q_isNoRow (by omega)) (by omega) (Nat.le_of_ble_eq_true rfl) (Nat.zero_le _) (Nat.zero_le _) (fun E h' n' _ z => det_x z) (det_k ?_)
    rw [show nrB (nI k) = false from nrB_k hk qk]
    show SW _ _ _ _ _ _ _ (.int 0 :: _) _ _ _
    refine sw_iload_n (pc' := 6) rfl dX5_fill_5 rfl ?_
    refine sw_S (M' := MX5_isNoThing) (d' := d - 1) (bc' := 0) (bs' := 0) (as := [_]) dX5_fill_6 w_1171 ok_X5_isNoThing (q_isNoThing (by omega)) (by omega) (Nat.le_of_ble_eq_true rfl) (Nat.zero_le _) (Nat.zero_le _) (fun E h' n' _ z => det_x z) (det_k ?_)
    rw [show inB x 0 100 = false from inB_x qx]
    show SW _ _ _ _ _ _ _ (.int 1 :: _) _ _ _
    refine sw_V (M' := MX5_isStopped_) (d' := d - 1) (bc' := 0) (bs' := 0) (ci := 6) (as := [_, _]) dX5_fill_9 w_1215 ok_X5_isStopped_ (q_isStopped2 (a := false) (b := true) hM hA (by omega)) hM.ob rfl (by omega) (Nat.le_of_ble_eq_true rfl) (Nat.zero_le _) (Nat.zero_le _) (fun E h' n' _ z => rp_x z) (rp_k (fun p9 p9ρ p9τ p9M p9A p9F => ?_))
    obtain ⟨Gp9, hGp9, eGp9⟩ := p9M.out
    show SW _ _ _ _ _ _ _ (.int 1 :: _) _ _ _
    refine sw_if_eq (pc' := 15) (tgt := 17) rfl dX5_fill_12 (by decide +kernel) (fun c12 => ?_) (fun c12 => ?_)
    · exact absurd c12 (by decide +kernel)
    · refine sw_iconst (pc' := 16) (v := 0) rfl dX5_fill_15 (by decide +kernel) ?_
      refine sw_ret (v := some _) ⟨dX5_fill_16, _, rfl, rfl⟩ ?_
      rw [opFill, onRw_k hk qk, if_pos qx]
      exact pm_x (tc_2 sAI) p9M p9A p9F (Nat.le_refl _)
  refine sw_aload_n (pc' := 1) rfl dX5_fill_0 rfl ?_
  refine sw_iload_n (pc' := 2) rfl dX5_fill_1 rfl ?_
  refine sw_S (M' := MX5_isNoRow) (d' := d - 1) (bc' := 0) (bs' := 0) (as := [_]) dX5_fill_2 w_1267 ok_X5_isNoRow (q_isNoRow (by omega)) (by omega) (Nat.le_of_ble_eq_true rfl) (Nat.zero_le _) (Nat.zero_le _) (fun E h' n' _ z => det_x z) (det_k ?_)
  rw [show nrB (nI k) = false from nrB_k hk qk]
  show SW _ _ _ _ _ _ _ (.int 0 :: _) _ _ _
  refine sw_iload_n (pc' := 6) rfl dX5_fill_5 rfl ?_
  refine sw_S (M' := MX5_isNoThing) (d' := d - 1) (bc' := 0) (bs' := 0) (as := [_]) dX5_fill_6 w_1171 ok_X5_isNoThing (q_isNoThing (by omega)) (by omega) (Nat.le_of_ble_eq_true rfl) (Nat.zero_le _) (Nat.zero_le _) (fun E h' n' _ z => det_x z) (det_k ?_)
  rw [show inB x 0 100 = true from inB_n qx]
  show SW _ _ _ _ _ _ _ (.int 0 :: _) _ _ _
  refine sw_V (M' := MX5_isStopped_) (d' := d - 1) (bc' := 0) (bs' := 0) (ci := 6) (as := [_, _]) dX5_fill_9 w_1215 ok_X5_isStopped_ (q_isStopped2 (a := false) (b := false) hM hA (by omega)) hM.ob rfl (by omega) (Nat.le_of_ble_eq_true rfl) (Nat.zero_le _) (Nat.zero_le _) (fun E h' n' _ z => rp_x z) (rp_k (fun p9 p9ρ p9τ p9M p9A p9F => ?_))
  obtain ⟨Gp9, hGp9, eGp9⟩ := p9M.out
  show SW _ _ _ _ _ _ _ (.int 0 :: _) _ _ _
  refine sw_if_eq (pc' := 15) (tgt := 17) rfl dX5_fill_12 (by decide +kernel) (fun c12 => ?_) (fun c12 => ?_)
  · refine sw_iconst (pc' := 18) (v := 0) rfl dX5_fill_17 (by decide +kernel) ?_
    refine sw_istore_n (pc' := 19) (lv' := [(3, _), (0, _), (1, _), (2, _)]) rfl dX5_fill_18 (by decide +kernel) rfl ?_
    refine ql_fill p9M p9A hk hck (fun p p' qM qA qF => ?_) (σ.2.1 k) 0 p9 (by omega) (by rw [fiN_z]; exact p9M.row hk) (fun _ _ => rfl)
    rw [opFill, onRw_k hk qk, if_neg qx]
    exact pm_k qM qA (p9F.tr qF (Nat.le_refl _)) (Nat.le_refl _)
  · exact absurd c12 (by decide +kernel)
theorem ql_replace {h : AH} {d bc bs n : Nat} {ρ : Nat → Nat → Int32} {τ : Nat → Int32} {σ : CS} {th : Int32} {x y : Int32} {w : Bool} {Post : ARes → AH → Nat → Prop} (hd : 1 ≤ d) (hM : MM h ρ τ σ th) (hA : AG ρ τ σ) {k : Nat} (hk : k < 11) (hc : σ.2.1 k ≤ 12) (fq : ∀ h' ρ' , MM h' ρ' τ (sU σ k (rpF (σ.1 k) x y (σ.2.1 k)) (σ.2.1 k) (σ.2.2.1 k) (σ.2.2.2.1 k + 1)) th → AG ρ' τ (sU σ k (rpF (σ.1 k) x y (σ.2.1 k)) (σ.2.1 k) (σ.2.2.1 k) (σ.2.2.2.1 k + 1)) → FrM h h' n → Post (.inl (some (.int (bI w)))) h' n) (m : Nat) : ∀ (j : Nat) (g : AH), j + m = σ.2.1 k → g (137 + k) = .inl (0, 12, .inl (rpF (ρ k) x y j)) → (∀ i, i ≠ 137 + k → g i = h i) → SW SR0 MX5_replace d bc bs 51 [(5, .int (nI j)), (4, .int (bI w)), (0, .ref 135), (1, .int (nI k)), (2, .int x), (3, .int y)] [] g n Post := by
  obtain ⟨G0, hG0, eG0⟩ := hM.out
  induction m with
  | zero =>
    intro j g hj hr hF
    have hjc : j = σ.2.1 k := by omega
    subst hjc
    refine sw_iload (pc' := 53) rfl dX5_replace_51 rfl ?_
    refine sw_aload_n (pc' := 54) rfl dX5_replace_53 rfl ?_
    refine sw_getf (ci := 6) (k := 4) (pc' := 57) rfl dX5_replace_54 (by decide +kernel) w_1117 ((hF 135 (by omega)).trans hM.ob) rfl ?_
    refine sw_iload_n (pc' := 58) rfl dX5_replace_57 rfl ?_
    refine sw_iald (j := k) (pc' := 59) rfl dX5_replace_58 ((hF 148 (by omega)).trans hM.sz) rfl (by omega) (by decide +kernel) ?_
    refine sw_icmp_ge (pc' := 62) (tgt := 103) rfl dX5_replace_59 (by decide +kernel) (fun c59 => ?_) (fun c59 => ?_)
    · refine sw_aload_n (pc' := 104) rfl dX5_replace_103 rfl ?_
      refine sw_getf (ci := 6) (k := 12) (pc' := 107) rfl dX5_replace_104 (by decide +kernel) w_1125 ((hF 135 (by omega)).trans hM.ob) rfl ?_
      refine sw_iload_n (pc' := 108) rfl dX5_replace_107 rfl ?_
      refine sw_dup2 (pc' := 109) rfl dX5_replace_108 rfl rfl ?_
      refine sw_iald (j := k) (pc' := 110) rfl dX5_replace_109 ((hF 156 (by omega)).trans hM.tu) rfl (by omega) (by decide +kernel) ?_
      refine sw_iconst (pc' := 111) (v := 1) rfl dX5_replace_110 (by decide +kernel) ?_
      refine sw_iadd (pc' := 112) rfl dX5_replace_111 ?_
      refine sw_iast (j := k) (pc' := 113) rfl dX5_replace_112 ((hF 156 (by omega)).trans hM.tu) (by decide +kernel) rfl (by omega) (by decide +kernel) ?_
      refine sw_nm (fun g1 eg1 => ?_)
      have zg1 := (congrFun eg1 156).trans (up_s (h := g) (i := 156))
      refine sw_iload (pc' := 115) rfl dX5_replace_113 rfl ?_
      refine sw_S (M' := MX5_one) (d' := d - 1) (bc' := 0) (bs' := 0) (as := [_]) dX5_replace_115 w_1196 ok_X5_one (q_one (q := w)) (by omega) (Nat.le_of_ble_eq_true rfl) (Nat.zero_le _) (Nat.zero_le _) (fun E h' n' _ z => det_x z) (det_k ?_)
      refine sw_ret (v := some _) ⟨dX5_replace_118, _, rfl, rfl⟩ ?_
      exact fq g1 _ (hM.rwT hk (((congrFun eg1 (137 + k)).trans (up_n (by omega))).trans hr) zg1 (fun i h1 h2 => (congrFun eg1 i).trans ((up_n h2).trans (hF i h1)))) (hA.shU (rpF_at (hA.1 k hk))) (FrM.of1 (fun i q => (congrFun eg1 i).trans ((up_n (by omega)).trans (hF i (by omega)))))
    · exact absurd (Int32.le_refl _) c59
  | succ m ih =>
    intro j g hj hr hF
    refine sw_iload (pc' := 53) rfl dX5_replace_51 rfl ?_
    refine sw_aload_n (pc' := 54) rfl dX5_replace_53 rfl ?_
    refine sw_getf (ci := 6) (k := 4) (pc' := 57) rfl dX5_replace_54 (by decide +kernel) w_1117 ((hF 135 (by omega)).trans hM.ob) rfl ?_
    refine sw_iload_n (pc' := 58) rfl dX5_replace_57 rfl ?_
    refine sw_iald (j := k) (pc' := 59) rfl dX5_replace_58 ((hF 148 (by omega)).trans hM.sz) rfl (by omega) (by decide +kernel) ?_
    refine sw_icmp_ge (pc' := 62) (tgt := 103) rfl dX5_replace_59 (by decide +kernel) (fun c59 => ?_) (fun c59 => ?_)
    · exact absurd c59 (nI_ge (by omega) (by omega))
    · refine sw_aload_n (pc' := 63) rfl dX5_replace_62 rfl ?_
      refine sw_getf (ci := 6) (k := 3) (pc' := 66) rfl dX5_replace_63 (by decide +kernel) w_1116 ((hF 135 (by omega)).trans hM.ob) rfl ?_
      refine sw_iload_n (pc' := 67) rfl dX5_replace_66 rfl ?_
      refine sw_aald (j := k) (pc' := 68) rfl dX5_replace_67 ((hF 136 (by omega)).trans hG0) (by decide +kernel) (by decide +kernel) rfl (by omega) (by decide +kernel) (eG0 k (by omega)) ?_
      refine sw_iload (pc' := 70) rfl dX5_replace_68 rfl ?_
      refine sw_aload_n (pc' := 71) rfl dX5_replace_70 rfl ?_
      refine sw_getf (ci := 6) (k := 3) (pc' := 74) rfl dX5_replace_71 (by decide +kernel) w_1116 ((hF 135 (by omega)).trans hM.ob) rfl ?_
      refine sw_iload_n (pc' := 75) rfl dX5_replace_74 rfl ?_
      refine sw_aald (j := k) (pc' := 76) rfl dX5_replace_75 ((hF 136 (by omega)).trans hG0) (by decide +kernel) (by decide +kernel) rfl (by omega) (by decide +kernel) (eG0 k (by omega)) ?_
      refine sw_iload (pc' := 78) rfl dX5_replace_76 rfl ?_
      refine sw_iald (j := j) (pc' := 79) rfl dX5_replace_78 hr rfl (by omega) (by decide +kernel) ?_
      rw [rpF_a]
      refine sw_iload_n (pc' := 80) rfl dX5_replace_79 rfl ?_
      refine sw_icmp_ne (pc' := 83) (tgt := 87) rfl dX5_replace_80 (by decide +kernel) (fun c80 => ?_) (fun c80 => ?_)
      · refine sw_aload_n (pc' := 88) rfl dX5_replace_87 rfl ?_
        refine sw_getf (ci := 6) (k := 3) (pc' := 91) rfl dX5_replace_88 (by decide +kernel) w_1116 ((hF 135 (by omega)).trans hM.ob) rfl ?_
        refine sw_iload_n (pc' := 92) rfl dX5_replace_91 rfl ?_
        refine sw_aald (j := k) (pc' := 93) rfl dX5_replace_92 ((hF 136 (by omega)).trans hG0) (by decide +kernel) (by decide +kernel) rfl (by omega) (by decide +kernel) (eG0 k (by omega)) ?_
        refine sw_iload (pc' := 95) rfl dX5_replace_93 rfl ?_
        refine sw_iald (j := j) (pc' := 96) rfl dX5_replace_95 hr rfl (by omega) (by decide +kernel) ?_
        rw [rpF_a]
        refine sw_iast (j := j) (pc' := 97) rfl dX5_replace_96 hr (by show 100 ≤ _; omega) rfl (by omega) (by decide +kernel) ?_
        refine sw_nm (fun g2 eg2 => ?_)
        have zg2 := (congrFun eg2 (137 + k)).trans (up_s (h := g) (i := (137 + k)))
        refine sw_iinc (pc' := 100) (lv' := [(5, _), (4, _), (0, _), (1, _), (2, _), (3, _)]) (v := nI (j + 1)) rfl dX5_replace_97 rfl (nI_1 j) (by decide +kernel) rfl ?_
        refine sw_goto (tgt := 51) dX5_replace_100 (by decide +kernel) ?_
        exact ih (j + 1) g2 (by omega) ((rpF_m2 c80) ▸ zg2) (fun i h1 => (congrFun eg2 i).trans ((up_n h1).trans (hF i h1)))
      · refine sw_iload_n (pc' := 84) rfl dX5_replace_83 rfl ?_
        refine sw_goto (tgt := 96) dX5_replace_84 (by decide +kernel) ?_
        refine sw_iast (j := j) (pc' := 97) rfl dX5_replace_96 hr (by show 100 ≤ _; omega) rfl (by omega) (by decide +kernel) ?_
        refine sw_nm (fun g3 eg3 => ?_)
        have zg3 := (congrFun eg3 (137 + k)).trans (up_s (h := g) (i := (137 + k)))
        refine sw_iinc (pc' := 100) (lv' := [(5, _), (4, _), (0, _), (1, _), (2, _), (3, _)]) (v := nI (j + 1)) rfl dX5_replace_97 rfl (nI_1 j) (by decide +kernel) rfl ?_
        refine sw_goto (tgt := 51) dX5_replace_100 (by decide +kernel) ?_
        exact ih (j + 1) g3 (by omega) ((rpF_p c80) ▸ zg3) (fun i h1 => (congrFun eg3 i).trans ((up_n h1).trans (hF i h1)))
theorem q_replace {h : AH} {d bc bs n : Nat} {σ : CS} {th : Int32} {a x y : Int32} (hR : RMo h σ th) (hI : Iv σ) (hn : 159 ≤ n) (hd : 8 ≤ d) (h1 : 1 ≤ bc) (h2 : 12 ≤ bs)  : SM SR0 MX5_replace d bc bs [.ref 135, .int a, .int x, .int y] h n (PM h n (tc sI sA) (opReplace σ a x y)) := by
  obtain ⟨ρ, τ, hM, hA⟩ := hR
  obtain ⟨G0, hG0, eG0⟩ := hM.out
  refine sm_of pn_OverwalksModel rfl (Nat.le_of_ble_eq_true rfl) ?_
  rcases idxN 11 (by decide +kernel) a with qk1 | ⟨k, hk, rfl⟩
  · refine sw_aload_n (pc' := 1) rfl dX5_replace_0 rfl ?_
    refine sw_iload_n (pc' := 2) rfl dX5_replace_1 rfl ?_
    refine sw_S (M' := MX5_isNoRow) (d' := d - 1) (bc' := 0) (bs' := 0) (as := [_]) dX5_replace_2 w_1267 ok_X5_isNoRow (q_isNoRow (by omega)) (by omega) (Nat.le_of_ble_eq_true rfl) (Nat.zero_le _) (Nat.zero_le _) (fun E h' n' _ z => det_x z) (det_k ?_)
    rw [show nrB a = true from nrB_x qk1]
    show SW _ _ _ _ _ _ _ (.int 1 :: _) _ _ _
    refine sw_iload_n (pc' := 6) rfl dX5_replace_5 rfl ?_
    refine sw_S (M' := MX5_isNoThing) (d' := d - 1) (bc' := 0) (bs' := 0) (as := [_]) dX5_replace_6 w_1171 ok_X5_isNoThing (q_isNoThing (by omega)) (by omega) (Nat.le_of_ble_eq_true rfl) (Nat.zero_le _) (Nat.zero_le _) (fun E h' n' _ z => det_x z) (det_k ?_)
    refine sw_if_ne (pc' := 12) (tgt := 19) rfl dX5_replace_9 (by decide +kernel) (fun c9 => ?_) (fun c9 => ?_)
    · refine sw_iconst (pc' := 20) (v := 1) rfl dX5_replace_19 (by decide +kernel) ?_
      refine sw_goto (tgt := 24) dX5_replace_20 (by decide +kernel) ?_
      refine sw_V (M' := MX5_isStopped_) (d' := d - 1) (bc' := 0) (bs' := 0) (ci := 6) (as := [_, _]) dX5_replace_24 w_1215 ok_X5_isStopped_ (q_isStopped2 (a := true) (b := true) hM hA (by omega)) hM.ob rfl (by omega) (Nat.le_of_ble_eq_true rfl) (Nat.zero_le _) (Nat.zero_le _) (fun E h' n' _ z => rp_x z) (rp_k (fun p24 p24ρ p24τ p24M p24A p24F => ?_))
      obtain ⟨Gp24, hGp24, eGp24⟩ := p24M.out
      show SW _ _ _ _ _ _ _ (.int 1 :: _) _ _ _
      refine sw_if_eq (pc' := 30) (tgt := 32) rfl dX5_replace_27 (by decide +kernel) (fun c27 => ?_) (fun c27 => ?_)
      · exact absurd c27 (by decide +kernel)
      · refine sw_iconst (pc' := 31) (v := 0) rfl dX5_replace_30 (by decide +kernel) ?_
        refine sw_ret (v := some _) ⟨dX5_replace_31, _, rfl, rfl⟩ ?_
        rw [opReplace, onRw_x qk1]
        exact pm_x tc_1 p24M p24A p24F (Nat.le_refl _)
    · refine sw_iload_n (pc' := 13) rfl dX5_replace_12 rfl ?_
      refine sw_S (M' := MX5_isNoThing) (d' := d - 1) (bc' := 0) (bs' := 0) (as := [_]) dX5_replace_13 w_1171 ok_X5_isNoThing (q_isNoThing (by omega)) (by omega) (Nat.le_of_ble_eq_true rfl) (Nat.zero_le _) (Nat.zero_le _) (fun E h' n' _ z => det_x z) (det_k ?_)
      refine sw_if_eq (pc' := 19) (tgt := 23) rfl dX5_replace_16 (by decide +kernel) (fun c16 => ?_) (fun c16 => ?_)
      · refine sw_iconst (pc' := 24) (v := 0) rfl dX5_replace_23 (by decide +kernel) ?_
        refine sw_V (M' := MX5_isStopped_) (d' := d - 1) (bc' := 0) (bs' := 0) (ci := 6) (as := [_, _]) dX5_replace_24 w_1215 ok_X5_isStopped_ (q_isStopped2 (a := true) (b := false) hM hA (by omega)) hM.ob rfl (by omega) (Nat.le_of_ble_eq_true rfl) (Nat.zero_le _) (Nat.zero_le _) (fun E h' n' _ z => rp_x z) (rp_k (fun p24 p24ρ p24τ p24M p24A p24F => ?_))
        obtain ⟨Gp24, hGp24, eGp24⟩ := p24M.out
        show SW _ _ _ _ _ _ _ (.int 1 :: _) _ _ _
        refine sw_if_eq (pc' := 30) (tgt := 32) rfl dX5_replace_27 (by decide +kernel) (fun c27 => ?_) (fun c27 => ?_)
        · exact absurd c27 (by decide +kernel)
        · refine sw_iconst (pc' := 31) (v := 0) rfl dX5_replace_30 (by decide +kernel) ?_
          refine sw_ret (v := some _) ⟨dX5_replace_31, _, rfl, rfl⟩ ?_
          rw [opReplace, onRw_x qk1]
          exact pm_x tc_1 p24M p24A p24F (Nat.le_refl _)
      · refine sw_iconst (pc' := 20) (v := 1) rfl dX5_replace_19 (by decide +kernel) ?_
        refine sw_goto (tgt := 24) dX5_replace_20 (by decide +kernel) ?_
        refine sw_V (M' := MX5_isStopped_) (d' := d - 1) (bc' := 0) (bs' := 0) (ci := 6) (as := [_, _]) dX5_replace_24 w_1215 ok_X5_isStopped_ (q_isStopped2 (a := true) (b := true) hM hA (by omega)) hM.ob rfl (by omega) (Nat.le_of_ble_eq_true rfl) (Nat.zero_le _) (Nat.zero_le _) (fun E h' n' _ z => rp_x z) (rp_k (fun p24 p24ρ p24τ p24M p24A p24F => ?_))
        obtain ⟨Gp24, hGp24, eGp24⟩ := p24M.out
        show SW _ _ _ _ _ _ _ (.int 1 :: _) _ _ _
        refine sw_if_eq (pc' := 30) (tgt := 32) rfl dX5_replace_27 (by decide +kernel) (fun c27 => ?_) (fun c27 => ?_)
        · exact absurd c27 (by decide +kernel)
        · refine sw_iconst (pc' := 31) (v := 0) rfl dX5_replace_30 (by decide +kernel) ?_
          refine sw_ret (v := some _) ⟨dX5_replace_31, _, rfl, rfl⟩ ?_
          rw [opReplace, onRw_x qk1]
          exact pm_x tc_1 p24M p24A p24F (Nat.le_refl _)
  rcases Classical.em (kP (kdO k) = false) with qk | qk
  · refine sw_aload_n (pc' := 1) rfl dX5_replace_0 rfl ?_
    refine sw_iload_n (pc' := 2) rfl dX5_replace_1 rfl ?_
    refine sw_S (M' := MX5_isNoRow) (d' := d - 1) (bc' := 0) (bs' := 0) (as := [_]) dX5_replace_2 w_1267 ok_X5_isNoRow (q_isNoRow (by omega)) (by omega) (Nat.le_of_ble_eq_true rfl) (Nat.zero_le _) (Nat.zero_le _) (fun E h' n' _ z => det_x z) (det_k ?_)
    rw [show nrB (nI k) = true from nrB_y hk qk]
    show SW _ _ _ _ _ _ _ (.int 1 :: _) _ _ _
    refine sw_iload_n (pc' := 6) rfl dX5_replace_5 rfl ?_
    refine sw_S (M' := MX5_isNoThing) (d' := d - 1) (bc' := 0) (bs' := 0) (as := [_]) dX5_replace_6 w_1171 ok_X5_isNoThing (q_isNoThing (by omega)) (by omega) (Nat.le_of_ble_eq_true rfl) (Nat.zero_le _) (Nat.zero_le _) (fun E h' n' _ z => det_x z) (det_k ?_)
    refine sw_if_ne (pc' := 12) (tgt := 19) rfl dX5_replace_9 (by decide +kernel) (fun c9 => ?_) (fun c9 => ?_)
    · refine sw_iconst (pc' := 20) (v := 1) rfl dX5_replace_19 (by decide +kernel) ?_
      refine sw_goto (tgt := 24) dX5_replace_20 (by decide +kernel) ?_
      refine sw_V (M' := MX5_isStopped_) (d' := d - 1) (bc' := 0) (bs' := 0) (ci := 6) (as := [_, _]) dX5_replace_24 w_1215 ok_X5_isStopped_ (q_isStopped2 (a := true) (b := true) hM hA (by omega)) hM.ob rfl (by omega) (Nat.le_of_ble_eq_true rfl) (Nat.zero_le _) (Nat.zero_le _) (fun E h' n' _ z => rp_x z) (rp_k (fun p24 p24ρ p24τ p24M p24A p24F => ?_))
      obtain ⟨Gp24, hGp24, eGp24⟩ := p24M.out
      show SW _ _ _ _ _ _ _ (.int 1 :: _) _ _ _
      refine sw_if_eq (pc' := 30) (tgt := 32) rfl dX5_replace_27 (by decide +kernel) (fun c27 => ?_) (fun c27 => ?_)
      · exact absurd c27 (by decide +kernel)
      · refine sw_iconst (pc' := 31) (v := 0) rfl dX5_replace_30 (by decide +kernel) ?_
        refine sw_ret (v := some _) ⟨dX5_replace_31, _, rfl, rfl⟩ ?_
        rw [opReplace, onRw_y hk qk]
        exact pm_x tc_1 p24M p24A p24F (Nat.le_refl _)
    · refine sw_iload_n (pc' := 13) rfl dX5_replace_12 rfl ?_
      refine sw_S (M' := MX5_isNoThing) (d' := d - 1) (bc' := 0) (bs' := 0) (as := [_]) dX5_replace_13 w_1171 ok_X5_isNoThing (q_isNoThing (by omega)) (by omega) (Nat.le_of_ble_eq_true rfl) (Nat.zero_le _) (Nat.zero_le _) (fun E h' n' _ z => det_x z) (det_k ?_)
      refine sw_if_eq (pc' := 19) (tgt := 23) rfl dX5_replace_16 (by decide +kernel) (fun c16 => ?_) (fun c16 => ?_)
      · refine sw_iconst (pc' := 24) (v := 0) rfl dX5_replace_23 (by decide +kernel) ?_
        refine sw_V (M' := MX5_isStopped_) (d' := d - 1) (bc' := 0) (bs' := 0) (ci := 6) (as := [_, _]) dX5_replace_24 w_1215 ok_X5_isStopped_ (q_isStopped2 (a := true) (b := false) hM hA (by omega)) hM.ob rfl (by omega) (Nat.le_of_ble_eq_true rfl) (Nat.zero_le _) (Nat.zero_le _) (fun E h' n' _ z => rp_x z) (rp_k (fun p24 p24ρ p24τ p24M p24A p24F => ?_))
        obtain ⟨Gp24, hGp24, eGp24⟩ := p24M.out
        show SW _ _ _ _ _ _ _ (.int 1 :: _) _ _ _
        refine sw_if_eq (pc' := 30) (tgt := 32) rfl dX5_replace_27 (by decide +kernel) (fun c27 => ?_) (fun c27 => ?_)
        · exact absurd c27 (by decide +kernel)
        · refine sw_iconst (pc' := 31) (v := 0) rfl dX5_replace_30 (by decide +kernel) ?_
          refine sw_ret (v := some _) ⟨dX5_replace_31, _, rfl, rfl⟩ ?_
          rw [opReplace, onRw_y hk qk]
          exact pm_x tc_1 p24M p24A p24F (Nat.le_refl _)
      · refine sw_iconst (pc' := 20) (v := 1) rfl dX5_replace_19 (by decide +kernel) ?_
        refine sw_goto (tgt := 24) dX5_replace_20 (by decide +kernel) ?_
        refine sw_V (M' := MX5_isStopped_) (d' := d - 1) (bc' := 0) (bs' := 0) (ci := 6) (as := [_, _]) dX5_replace_24 w_1215 ok_X5_isStopped_ (q_isStopped2 (a := true) (b := true) hM hA (by omega)) hM.ob rfl (by omega) (Nat.le_of_ble_eq_true rfl) (Nat.zero_le _) (Nat.zero_le _) (fun E h' n' _ z => rp_x z) (rp_k (fun p24 p24ρ p24τ p24M p24A p24F => ?_))
        obtain ⟨Gp24, hGp24, eGp24⟩ := p24M.out
        show SW _ _ _ _ _ _ _ (.int 1 :: _) _ _ _
        refine sw_if_eq (pc' := 30) (tgt := 32) rfl dX5_replace_27 (by decide +kernel) (fun c27 => ?_) (fun c27 => ?_)
        · exact absurd c27 (by decide +kernel)
        · refine sw_iconst (pc' := 31) (v := 0) rfl dX5_replace_30 (by decide +kernel) ?_
          refine sw_ret (v := some _) ⟨dX5_replace_31, _, rfl, rfl⟩ ?_
          rw [opReplace, onRw_y hk qk]
          exact pm_x tc_1 p24M p24A p24F (Nat.le_refl _)
  have hck := hI.1 k hk
  rcases Classical.em (x < 0 ∨ 100 < x) with qx | qx
  · refine sw_aload_n (pc' := 1) rfl dX5_replace_0 rfl ?_
    refine sw_iload_n (pc' := 2) rfl dX5_replace_1 rfl ?_
    refine sw_S (M' := MX5_isNoRow) (d' := d - 1) (bc' := 0) (bs' := 0) (as := [_]) dX5_replace_2 w_1267 ok_X5_isNoRow (q_isNoRow (by omega)) (by omega) (Nat.le_of_ble_eq_true rfl) (Nat.zero_le _) (Nat.zero_le _) (fun E h' n' _ z => det_x z) (det_k ?_)
    rw [show nrB (nI k) = false from nrB_k hk qk]
    show SW _ _ _ _ _ _ _ (.int 0 :: _) _ _ _
    refine sw_iload_n (pc' := 6) rfl dX5_replace_5 rfl ?_
    refine sw_S (M' := MX5_isNoThing) (d' := d - 1) (bc' := 0) (bs' := 0) (as := [_]) dX5_replace_6 w_1171 ok_X5_isNoThing (q_isNoThing (by omega)) (by omega) (Nat.le_of_ble_eq_true rfl) (Nat.zero_le _) (Nat.zero_le _) (fun E h' n' _ z => det_x z) (det_k ?_)
    rw [show inB x 0 100 = false from inB_x qx]
    show SW _ _ _ _ _ _ _ (.int 1 :: _) _ _ _
    refine sw_if_ne (pc' := 12) (tgt := 19) rfl dX5_replace_9 (by decide +kernel) (fun c9 => ?_) (fun c9 => ?_)
    · refine sw_iconst (pc' := 20) (v := 1) rfl dX5_replace_19 (by decide +kernel) ?_
      refine sw_goto (tgt := 24) dX5_replace_20 (by decide +kernel) ?_
      refine sw_V (M' := MX5_isStopped_) (d' := d - 1) (bc' := 0) (bs' := 0) (ci := 6) (as := [_, _]) dX5_replace_24 w_1215 ok_X5_isStopped_ (q_isStopped2 (a := false) (b := true) hM hA (by omega)) hM.ob rfl (by omega) (Nat.le_of_ble_eq_true rfl) (Nat.zero_le _) (Nat.zero_le _) (fun E h' n' _ z => rp_x z) (rp_k (fun p24 p24ρ p24τ p24M p24A p24F => ?_))
      obtain ⟨Gp24, hGp24, eGp24⟩ := p24M.out
      show SW _ _ _ _ _ _ _ (.int 1 :: _) _ _ _
      refine sw_if_eq (pc' := 30) (tgt := 32) rfl dX5_replace_27 (by decide +kernel) (fun c27 => ?_) (fun c27 => ?_)
      · exact absurd c27 (by decide +kernel)
      · refine sw_iconst (pc' := 31) (v := 0) rfl dX5_replace_30 (by decide +kernel) ?_
        refine sw_ret (v := some _) ⟨dX5_replace_31, _, rfl, rfl⟩ ?_
        rw [opReplace, onRw_k hk qk, if_pos qx]
        exact pm_x (tc_2 sAI) p24M p24A p24F (Nat.le_refl _)
    · exact absurd c9 (by decide +kernel)
  rcases Classical.em (y < 0 ∨ 100 < y) with qy | qy
  · refine sw_aload_n (pc' := 1) rfl dX5_replace_0 rfl ?_
    refine sw_iload_n (pc' := 2) rfl dX5_replace_1 rfl ?_
    refine sw_S (M' := MX5_isNoRow) (d' := d - 1) (bc' := 0) (bs' := 0) (as := [_]) dX5_replace_2 w_1267 ok_X5_isNoRow (q_isNoRow (by omega)) (by omega) (Nat.le_of_ble_eq_true rfl) (Nat.zero_le _) (Nat.zero_le _) (fun E h' n' _ z => det_x z) (det_k ?_)
    rw [show nrB (nI k) = false from nrB_k hk qk]
    show SW _ _ _ _ _ _ _ (.int 0 :: _) _ _ _
    refine sw_iload_n (pc' := 6) rfl dX5_replace_5 rfl ?_
    refine sw_S (M' := MX5_isNoThing) (d' := d - 1) (bc' := 0) (bs' := 0) (as := [_]) dX5_replace_6 w_1171 ok_X5_isNoThing (q_isNoThing (by omega)) (by omega) (Nat.le_of_ble_eq_true rfl) (Nat.zero_le _) (Nat.zero_le _) (fun E h' n' _ z => det_x z) (det_k ?_)
    rw [show inB x 0 100 = true from inB_n qx]
    show SW _ _ _ _ _ _ _ (.int 0 :: _) _ _ _
    refine sw_if_ne (pc' := 12) (tgt := 19) rfl dX5_replace_9 (by decide +kernel) (fun c9 => ?_) (fun c9 => ?_)
    · exact absurd c9 (by decide +kernel)
    · refine sw_iload_n (pc' := 13) rfl dX5_replace_12 rfl ?_
      refine sw_S (M' := MX5_isNoThing) (d' := d - 1) (bc' := 0) (bs' := 0) (as := [_]) dX5_replace_13 w_1171 ok_X5_isNoThing (q_isNoThing (by omega)) (by omega) (Nat.le_of_ble_eq_true rfl) (Nat.zero_le _) (Nat.zero_le _) (fun E h' n' _ z => det_x z) (det_k ?_)
      rw [show inB y 0 100 = false from inB_x qy]
      show SW _ _ _ _ _ _ _ (.int 1 :: _) _ _ _
      refine sw_if_eq (pc' := 19) (tgt := 23) rfl dX5_replace_16 (by decide +kernel) (fun c16 => ?_) (fun c16 => ?_)
      · exact absurd c16 (by decide +kernel)
      · refine sw_iconst (pc' := 20) (v := 1) rfl dX5_replace_19 (by decide +kernel) ?_
        refine sw_goto (tgt := 24) dX5_replace_20 (by decide +kernel) ?_
        refine sw_V (M' := MX5_isStopped_) (d' := d - 1) (bc' := 0) (bs' := 0) (ci := 6) (as := [_, _]) dX5_replace_24 w_1215 ok_X5_isStopped_ (q_isStopped2 (a := false) (b := true) hM hA (by omega)) hM.ob rfl (by omega) (Nat.le_of_ble_eq_true rfl) (Nat.zero_le _) (Nat.zero_le _) (fun E h' n' _ z => rp_x z) (rp_k (fun p24 p24ρ p24τ p24M p24A p24F => ?_))
        obtain ⟨Gp24, hGp24, eGp24⟩ := p24M.out
        show SW _ _ _ _ _ _ _ (.int 1 :: _) _ _ _
        refine sw_if_eq (pc' := 30) (tgt := 32) rfl dX5_replace_27 (by decide +kernel) (fun c27 => ?_) (fun c27 => ?_)
        · exact absurd c27 (by decide +kernel)
        · refine sw_iconst (pc' := 31) (v := 0) rfl dX5_replace_30 (by decide +kernel) ?_
          refine sw_ret (v := some _) ⟨dX5_replace_31, _, rfl, rfl⟩ ?_
          rw [opReplace, onRw_k hk qk, if_neg qx, if_pos qy]
          exact pm_x (tc_2 sAI) p24M p24A p24F (Nat.le_refl _)
  refine sw_aload_n (pc' := 1) rfl dX5_replace_0 rfl ?_
  refine sw_iload_n (pc' := 2) rfl dX5_replace_1 rfl ?_
  refine sw_S (M' := MX5_isNoRow) (d' := d - 1) (bc' := 0) (bs' := 0) (as := [_]) dX5_replace_2 w_1267 ok_X5_isNoRow (q_isNoRow (by omega)) (by omega) (Nat.le_of_ble_eq_true rfl) (Nat.zero_le _) (Nat.zero_le _) (fun E h' n' _ z => det_x z) (det_k ?_)
  rw [show nrB (nI k) = false from nrB_k hk qk]
  show SW _ _ _ _ _ _ _ (.int 0 :: _) _ _ _
  refine sw_iload_n (pc' := 6) rfl dX5_replace_5 rfl ?_
  refine sw_S (M' := MX5_isNoThing) (d' := d - 1) (bc' := 0) (bs' := 0) (as := [_]) dX5_replace_6 w_1171 ok_X5_isNoThing (q_isNoThing (by omega)) (by omega) (Nat.le_of_ble_eq_true rfl) (Nat.zero_le _) (Nat.zero_le _) (fun E h' n' _ z => det_x z) (det_k ?_)
  rw [show inB x 0 100 = true from inB_n qx]
  show SW _ _ _ _ _ _ _ (.int 0 :: _) _ _ _
  refine sw_if_ne (pc' := 12) (tgt := 19) rfl dX5_replace_9 (by decide +kernel) (fun c9 => ?_) (fun c9 => ?_)
  · exact absurd c9 (by decide +kernel)
  · refine sw_iload_n (pc' := 13) rfl dX5_replace_12 rfl ?_
    refine sw_S (M' := MX5_isNoThing) (d' := d - 1) (bc' := 0) (bs' := 0) (as := [_]) dX5_replace_13 w_1171 ok_X5_isNoThing (q_isNoThing (by omega)) (by omega) (Nat.le_of_ble_eq_true rfl) (Nat.zero_le _) (Nat.zero_le _) (fun E h' n' _ z => det_x z) (det_k ?_)
    rw [show inB y 0 100 = true from inB_n qy]
    show SW _ _ _ _ _ _ _ (.int 0 :: _) _ _ _
    refine sw_if_eq (pc' := 19) (tgt := 23) rfl dX5_replace_16 (by decide +kernel) (fun c16 => ?_) (fun c16 => ?_)
    · refine sw_iconst (pc' := 24) (v := 0) rfl dX5_replace_23 (by decide +kernel) ?_
      refine sw_V (M' := MX5_isStopped_) (d' := d - 1) (bc' := 0) (bs' := 0) (ci := 6) (as := [_, _]) dX5_replace_24 w_1215 ok_X5_isStopped_ (q_isStopped2 (a := false) (b := false) hM hA (by omega)) hM.ob rfl (by omega) (Nat.le_of_ble_eq_true rfl) (Nat.zero_le _) (Nat.zero_le _) (fun E h' n' _ z => rp_x z) (rp_k (fun p24 p24ρ p24τ p24M p24A p24F => ?_))
      obtain ⟨Gp24, hGp24, eGp24⟩ := p24M.out
      show SW _ _ _ _ _ _ _ (.int 0 :: _) _ _ _
      refine sw_if_eq (pc' := 30) (tgt := 32) rfl dX5_replace_27 (by decide +kernel) (fun c27 => ?_) (fun c27 => ?_)
      · refine sw_aload_n (pc' := 33) rfl dX5_replace_32 rfl ?_
        refine sw_iload_n (pc' := 34) rfl dX5_replace_33 rfl ?_
        refine sw_iload_n (pc' := 35) rfl dX5_replace_34 rfl ?_
        refine sw_V (M' := MX5_count) (d' := d - 1) (bc' := 0) (bs' := 0) (ci := 6) (as := [_, _]) dX5_replace_35 w_1192 ok_X5_count (q_count p24M p24A (k := k) (by omega) (hI.1 k (by omega)) (by omega)) p24M.ob rfl (by omega) (Nat.le_of_ble_eq_true rfl) (Nat.zero_le _) (Nat.zero_le _) (fun E h' n' _ z => det_x z) (det_k ?_)
        have hl35 := coN_le (f := σ.1 k) (x := x) (m := σ.2.1 k) (j := 0)
        refine sw_if_le (pc' := 41) (tgt := 45) rfl dX5_replace_38 (by decide +kernel) (fun c38 => ?_) (fun c38 => ?_)
        · refine sw_iconst (pc' := 46) (v := 0) rfl dX5_replace_45 (by decide +kernel) ?_
          refine sw_istore (pc' := 48) (lv' := [(4, _), (0, _), (1, _), (2, _), (3, _)]) rfl dX5_replace_46 (by decide +kernel) rfl ?_
          refine sw_iconst (pc' := 49) (v := 0) rfl dX5_replace_48 (by decide +kernel) ?_
          refine sw_istore (pc' := 51) (lv' := [(5, _), (4, _), (0, _), (1, _), (2, _), (3, _)]) rfl dX5_replace_49 (by decide +kernel) rfl ?_
          refine ql_replace (w := false) (by omega) p24M p24A hk hck (fun p p' qM qA qF => ?_) (σ.2.1 k) 0 p24 (by omega) (by rw [rpF_z]; exact p24M.row hk) (fun _ _ => rfl)
          rw [opReplace, onRw_k hk qk, if_neg qx, if_neg qy, fp_of_co (fun g => absurd ((nI_gt0 (by omega)).mpr g) (Int32.not_lt.mpr c38))]
          exact pm_k qM qA (p24F.tr qF (Nat.le_refl _)) (Nat.le_refl _)
        · refine sw_iconst (pc' := 42) (v := 1) rfl dX5_replace_41 (by decide +kernel) ?_
          refine sw_goto (tgt := 46) dX5_replace_42 (by decide +kernel) ?_
          refine sw_istore (pc' := 48) (lv' := [(4, _), (0, _), (1, _), (2, _), (3, _)]) rfl dX5_replace_46 (by decide +kernel) rfl ?_
          refine sw_iconst (pc' := 49) (v := 0) rfl dX5_replace_48 (by decide +kernel) ?_
          refine sw_istore (pc' := 51) (lv' := [(5, _), (4, _), (0, _), (1, _), (2, _), (3, _)]) rfl dX5_replace_49 (by decide +kernel) rfl ?_
          refine ql_replace (w := true) (by omega) p24M p24A hk hck (fun p p' qM qA qF => ?_) (σ.2.1 k) 0 p24 (by omega) (by rw [rpF_z]; exact p24M.row hk) (fun _ _ => rfl)
          rw [opReplace, onRw_k hk qk, if_neg qx, if_neg qy, fp_of_co1 ((nI_gt0 (by omega)).mp (Int32.not_le.mp c38))]
          exact pm_k qM qA (p24F.tr qF (Nat.le_refl _)) (Nat.le_refl _)
      · exact absurd c27 (by decide +kernel)
    · exact absurd c16 (by decide +kernel)
theorem ql_copies {h0 : AH} {d bc bs n k M : Nat} {th x : Int32} (hk : k < 11) (hr : ¬ kP (kdO k) = false) (hM9 : M ≤ 12) (hd : 1 ≤ d) (m : Nat) : ∀ (j : Nat) (h : AH) (ρ : Nat → Nat → Int32) (τ : Nat → Int32) (σ : CS), j + m = M → σ.2.1 k + m ≤ 12 → MM h ρ τ σ th → AG ρ τ σ → FrM h0 h n → SW SR0 MX5_copies d bc bs 73 [(4, .int (nI j)), (0, .ref 135), (1, .int (nI k)), (2, .int x), (3, .int (nI M))] [] h n (fun r' h' n' => r' = .inl (some (.int (nI ((ldM k x m σ).2.1 k)))) ∧ n' = n ∧ RMo h' (ldM k x m σ) th ∧ FrM h0 h' n) := by
  induction m with
  | zero =>
    intro j h ρ τ σ hj hc hM hA hF
    obtain ⟨G0, hG0, eG0⟩ := hM.out
    have hjM : j = M := by omega
    subst hjM
    refine sw_iload (pc' := 75) rfl dX5_copies_73 rfl ?_
    refine sw_iload_n (pc' := 76) rfl dX5_copies_75 rfl ?_
    refine sw_icmp_ge (pc' := 79) (tgt := 97) rfl dX5_copies_76 (by decide +kernel) (fun c76 => ?_) (fun c76 => ?_)
    · refine sw_aload_n (pc' := 98) rfl dX5_copies_97 rfl ?_
      refine sw_getf (ci := 6) (k := 4) (pc' := 101) rfl dX5_copies_98 (by decide +kernel) w_1117 hM.ob rfl ?_
      refine sw_iload_n (pc' := 102) rfl dX5_copies_101 rfl ?_
      refine sw_iald (j := k) (pc' := 103) rfl dX5_copies_102 hM.sz rfl (by omega) (by decide +kernel) ?_
      refine sw_ret (v := some _) ⟨dX5_copies_103, _, rfl, rfl⟩ ?_
      exact ⟨rfl, rfl, ⟨_, _, hM, hA⟩, hF⟩
    · exact absurd (Int32.le_refl _) c76
  | succ m ih =>
    intro j h ρ τ σ hj hc hM hA hF
    obtain ⟨G0, hG0, eG0⟩ := hM.out
    rw [ldM, rowU hk hr]
    refine sw_iload (pc' := 75) rfl dX5_copies_73 rfl ?_
    refine sw_iload_n (pc' := 76) rfl dX5_copies_75 rfl ?_
    refine sw_icmp_ge (pc' := 79) (tgt := 97) rfl dX5_copies_76 (by decide +kernel) (fun c76 => ?_) (fun c76 => ?_)
    · exact absurd c76 (nI_ge (by omega) (by omega))
    · refine sw_aload_n (pc' := 80) rfl dX5_copies_79 rfl ?_
      refine sw_iload_n (pc' := 81) rfl dX5_copies_80 rfl ?_
      refine sw_aload_n (pc' := 82) rfl dX5_copies_81 rfl ?_
      refine sw_getf (ci := 6) (k := 4) (pc' := 85) rfl dX5_copies_82 (by decide +kernel) w_1117 hM.ob rfl ?_
      refine sw_iload_n (pc' := 86) rfl dX5_copies_85 rfl ?_
      refine sw_iald (j := k) (pc' := 87) rfl dX5_copies_86 hM.sz rfl (by omega) (by decide +kernel) ?_
      refine sw_iload_n (pc' := 88) rfl dX5_copies_87 rfl ?_
      refine sw_V (M' := MX5_comeAt) (d' := d - 1) (bc' := 0) (bs' := 0) (ci := 6) (as := [_, _, _]) dX5_copies_88 w_1199 ok_X5_comeAt (q_comeAt hM hA hk (by omega) (Nat.le_refl _)) hM.ob rfl (by omega) (Nat.le_of_ble_eq_true rfl) (Nat.zero_le _) (Nat.zero_le _) (fun E h' n' _ z => rp_x z) (rp_k (fun p pρ pτ pM pA pF => ?_))
      obtain ⟨Gp, hGp, eGp⟩ := pM.out
      refine sw_iinc (pc' := 94) (lv' := [(4, _), (0, _), (1, _), (2, _), (3, _)]) (v := nI (j + 1)) rfl dX5_copies_91 rfl (nI_1 j) (by decide +kernel) rfl ?_
      refine sw_goto (tgt := 73) dX5_copies_94 (by decide +kernel) ?_
      have hcc : (la2 σ k (σ.2.1 k) x).2.1 k = σ.2.1 k + 1 := la2_c
      exact ih (j + 1) p pρ pτ _ (by omega) (by omega) pM pA (hF.tr pF (Nat.le_refl _))
theorem q_copies {h : AH} {d bc bs n : Nat} {σ : CS} {th : Int32} {a x m : Int32} (hR : RMo h σ th) (hI : Iv σ) (hn : 159 ≤ n) (hd : 8 ≤ d) (h1 : 1 ≤ bc) (h2 : 12 ≤ bs)  : SM SR0 MX5_copies d bc bs [.ref 135, .int a, .int x, .int m] h n (PM h n (tc sI sA) (opCopies σ a x m)) := by
  obtain ⟨ρ, τ, hM, hA⟩ := hR
  obtain ⟨G0, hG0, eG0⟩ := hM.out
  refine sm_of pn_OverwalksModel rfl (Nat.le_of_ble_eq_true rfl) ?_
  rcases idxN 11 (by decide +kernel) a with qk1 | ⟨k, hk, rfl⟩
  · refine sw_aload_n (pc' := 1) rfl dX5_copies_0 rfl ?_
    refine sw_iload_n (pc' := 2) rfl dX5_copies_1 rfl ?_
    refine sw_S (M' := MX5_isNoRow) (d' := d - 1) (bc' := 0) (bs' := 0) (as := [_]) dX5_copies_2 w_1267 ok_X5_isNoRow (q_isNoRow (by omega)) (by omega) (Nat.le_of_ble_eq_true rfl) (Nat.zero_le _) (Nat.zero_le _) (fun E h' n' _ z => det_x z) (det_k ?_)
    rw [show nrB a = true from nrB_x qk1]
    show SW _ _ _ _ _ _ _ (.int 1 :: _) _ _ _
    refine sw_iload_n (pc' := 6) rfl dX5_copies_5 rfl ?_
    refine sw_S (M' := MX5_isNoThing) (d' := d - 1) (bc' := 0) (bs' := 0) (as := [_]) dX5_copies_6 w_1171 ok_X5_isNoThing (q_isNoThing (by omega)) (by omega) (Nat.le_of_ble_eq_true rfl) (Nat.zero_le _) (Nat.zero_le _) (fun E h' n' _ z => det_x z) (det_k ?_)
    refine sw_if_ne (pc' := 12) (tgt := 22) rfl dX5_copies_9 (by decide +kernel) (fun c9 => ?_) (fun c9 => ?_)
    · refine sw_iconst (pc' := 23) (v := 1) rfl dX5_copies_22 (by decide +kernel) ?_
      refine sw_goto (tgt := 27) dX5_copies_23 (by decide +kernel) ?_
      refine sw_iload_n (pc' := 28) rfl dX5_copies_27 rfl ?_
      refine sw_S (M' := MX5_isNoRow) (d' := d - 1) (bc' := 0) (bs' := 0) (as := [_]) dX5_copies_28 w_1267 ok_X5_isNoRow (q_isNoRow (by omega)) (by omega) (Nat.le_of_ble_eq_true rfl) (Nat.zero_le _) (Nat.zero_le _) (fun E h' n' _ z => det_x z) (det_k ?_)
      rw [show nrB a = true from nrB_x qk1]
      show SW _ _ _ _ _ _ _ (.int 1 :: _) _ _ _
      refine sw_if_ne (pc' := 34) (tgt := 61) rfl dX5_copies_31 (by decide +kernel) (fun c31 => ?_) (fun c31 => ?_)
      · refine sw_iconst (pc' := 62) (v := 0) rfl dX5_copies_61 (by decide +kernel) ?_
        refine sw_V (M' := MX5_isStopped) (d' := d - 1) (bc' := 0) (bs' := 0) (ci := 6) (as := [_, _, _]) dX5_copies_62 w_1174 ok_X5_isStopped (q_isStopped (a := true) (b := true) (c := false) hM hA) hM.ob rfl (by omega) (Nat.le_of_ble_eq_true rfl) (Nat.zero_le _) (Nat.zero_le _) (fun E h' n' _ z => rp_x z) (rp_k (fun p62 p62ρ p62τ p62M p62A p62F => ?_))
        obtain ⟨Gp62, hGp62, eGp62⟩ := p62M.out
        show SW _ _ _ _ _ _ _ (.int 1 :: _) _ _ _
        refine sw_if_eq (pc' := 68) (tgt := 70) rfl dX5_copies_65 (by decide +kernel) (fun c65 => ?_) (fun c65 => ?_)
        · exact absurd c65 (by decide +kernel)
        · refine sw_iconst (pc' := 69) (v := 0) rfl dX5_copies_68 (by decide +kernel) ?_
          refine sw_ret (v := some _) ⟨dX5_copies_69, _, rfl, rfl⟩ ?_
          rw [opCopies, onRw_x qk1]
          exact pm_x tc_1 p62M p62A p62F (Nat.le_refl _)
      · exact absurd c31 (by decide +kernel)
    · refine sw_iload_n (pc' := 13) rfl dX5_copies_12 rfl ?_
      refine sw_iconst (pc' := 14) (v := 0) rfl dX5_copies_13 (by decide +kernel) ?_
      refine sw_bipush (pc' := 16) (v := 12) rfl dX5_copies_14 (by decide +kernel) ?_
      refine sw_S (M' := MX5_isIn) (d' := d - 1) (bc' := 0) (bs' := 0) (as := [_, _, _]) dX5_copies_16 w_1168 ok_X5_isIn (q_isIn) (by omega) (Nat.le_of_ble_eq_true rfl) (Nat.zero_le _) (Nat.zero_le _) (fun E h' n' _ z => det_x z) (det_k ?_)
      refine sw_if_ne (pc' := 22) (tgt := 26) rfl dX5_copies_19 (by decide +kernel) (fun c19 => ?_) (fun c19 => ?_)
      · refine sw_iconst (pc' := 27) (v := 0) rfl dX5_copies_26 (by decide +kernel) ?_
        refine sw_iload_n (pc' := 28) rfl dX5_copies_27 rfl ?_
        refine sw_S (M' := MX5_isNoRow) (d' := d - 1) (bc' := 0) (bs' := 0) (as := [_]) dX5_copies_28 w_1267 ok_X5_isNoRow (q_isNoRow (by omega)) (by omega) (Nat.le_of_ble_eq_true rfl) (Nat.zero_le _) (Nat.zero_le _) (fun E h' n' _ z => det_x z) (det_k ?_)
        rw [show nrB a = true from nrB_x qk1]
        show SW _ _ _ _ _ _ _ (.int 1 :: _) _ _ _
        refine sw_if_ne (pc' := 34) (tgt := 61) rfl dX5_copies_31 (by decide +kernel) (fun c31 => ?_) (fun c31 => ?_)
        · refine sw_iconst (pc' := 62) (v := 0) rfl dX5_copies_61 (by decide +kernel) ?_
          refine sw_V (M' := MX5_isStopped) (d' := d - 1) (bc' := 0) (bs' := 0) (ci := 6) (as := [_, _, _]) dX5_copies_62 w_1174 ok_X5_isStopped (q_isStopped (a := true) (b := false) (c := false) hM hA) hM.ob rfl (by omega) (Nat.le_of_ble_eq_true rfl) (Nat.zero_le _) (Nat.zero_le _) (fun E h' n' _ z => rp_x z) (rp_k (fun p62 p62ρ p62τ p62M p62A p62F => ?_))
          obtain ⟨Gp62, hGp62, eGp62⟩ := p62M.out
          show SW _ _ _ _ _ _ _ (.int 1 :: _) _ _ _
          refine sw_if_eq (pc' := 68) (tgt := 70) rfl dX5_copies_65 (by decide +kernel) (fun c65 => ?_) (fun c65 => ?_)
          · exact absurd c65 (by decide +kernel)
          · refine sw_iconst (pc' := 69) (v := 0) rfl dX5_copies_68 (by decide +kernel) ?_
            refine sw_ret (v := some _) ⟨dX5_copies_69, _, rfl, rfl⟩ ?_
            rw [opCopies, onRw_x qk1]
            exact pm_x tc_1 p62M p62A p62F (Nat.le_refl _)
        · exact absurd c31 (by decide +kernel)
      · refine sw_iconst (pc' := 23) (v := 1) rfl dX5_copies_22 (by decide +kernel) ?_
        refine sw_goto (tgt := 27) dX5_copies_23 (by decide +kernel) ?_
        refine sw_iload_n (pc' := 28) rfl dX5_copies_27 rfl ?_
        refine sw_S (M' := MX5_isNoRow) (d' := d - 1) (bc' := 0) (bs' := 0) (as := [_]) dX5_copies_28 w_1267 ok_X5_isNoRow (q_isNoRow (by omega)) (by omega) (Nat.le_of_ble_eq_true rfl) (Nat.zero_le _) (Nat.zero_le _) (fun E h' n' _ z => det_x z) (det_k ?_)
        rw [show nrB a = true from nrB_x qk1]
        show SW _ _ _ _ _ _ _ (.int 1 :: _) _ _ _
        refine sw_if_ne (pc' := 34) (tgt := 61) rfl dX5_copies_31 (by decide +kernel) (fun c31 => ?_) (fun c31 => ?_)
        · refine sw_iconst (pc' := 62) (v := 0) rfl dX5_copies_61 (by decide +kernel) ?_
          refine sw_V (M' := MX5_isStopped) (d' := d - 1) (bc' := 0) (bs' := 0) (ci := 6) (as := [_, _, _]) dX5_copies_62 w_1174 ok_X5_isStopped (q_isStopped (a := true) (b := true) (c := false) hM hA) hM.ob rfl (by omega) (Nat.le_of_ble_eq_true rfl) (Nat.zero_le _) (Nat.zero_le _) (fun E h' n' _ z => rp_x z) (rp_k (fun p62 p62ρ p62τ p62M p62A p62F => ?_))
          obtain ⟨Gp62, hGp62, eGp62⟩ := p62M.out
          show SW _ _ _ _ _ _ _ (.int 1 :: _) _ _ _
          refine sw_if_eq (pc' := 68) (tgt := 70) rfl dX5_copies_65 (by decide +kernel) (fun c65 => ?_) (fun c65 => ?_)
          · exact absurd c65 (by decide +kernel)
          · refine sw_iconst (pc' := 69) (v := 0) rfl dX5_copies_68 (by decide +kernel) ?_
            refine sw_ret (v := some _) ⟨dX5_copies_69, _, rfl, rfl⟩ ?_
            rw [opCopies, onRw_x qk1]
            exact pm_x tc_1 p62M p62A p62F (Nat.le_refl _)
        · exact absurd c31 (by decide +kernel)
  rcases Classical.em (kP (kdO k) = false) with qk | qk
  · refine sw_aload_n (pc' := 1) rfl dX5_copies_0 rfl ?_
    refine sw_iload_n (pc' := 2) rfl dX5_copies_1 rfl ?_
    refine sw_S (M' := MX5_isNoRow) (d' := d - 1) (bc' := 0) (bs' := 0) (as := [_]) dX5_copies_2 w_1267 ok_X5_isNoRow (q_isNoRow (by omega)) (by omega) (Nat.le_of_ble_eq_true rfl) (Nat.zero_le _) (Nat.zero_le _) (fun E h' n' _ z => det_x z) (det_k ?_)
    rw [show nrB (nI k) = true from nrB_y hk qk]
    show SW _ _ _ _ _ _ _ (.int 1 :: _) _ _ _
    refine sw_iload_n (pc' := 6) rfl dX5_copies_5 rfl ?_
    refine sw_S (M' := MX5_isNoThing) (d' := d - 1) (bc' := 0) (bs' := 0) (as := [_]) dX5_copies_6 w_1171 ok_X5_isNoThing (q_isNoThing (by omega)) (by omega) (Nat.le_of_ble_eq_true rfl) (Nat.zero_le _) (Nat.zero_le _) (fun E h' n' _ z => det_x z) (det_k ?_)
    refine sw_if_ne (pc' := 12) (tgt := 22) rfl dX5_copies_9 (by decide +kernel) (fun c9 => ?_) (fun c9 => ?_)
    · refine sw_iconst (pc' := 23) (v := 1) rfl dX5_copies_22 (by decide +kernel) ?_
      refine sw_goto (tgt := 27) dX5_copies_23 (by decide +kernel) ?_
      refine sw_iload_n (pc' := 28) rfl dX5_copies_27 rfl ?_
      refine sw_S (M' := MX5_isNoRow) (d' := d - 1) (bc' := 0) (bs' := 0) (as := [_]) dX5_copies_28 w_1267 ok_X5_isNoRow (q_isNoRow (by omega)) (by omega) (Nat.le_of_ble_eq_true rfl) (Nat.zero_le _) (Nat.zero_le _) (fun E h' n' _ z => det_x z) (det_k ?_)
      rw [show nrB (nI k) = true from nrB_y hk qk]
      show SW _ _ _ _ _ _ _ (.int 1 :: _) _ _ _
      refine sw_if_ne (pc' := 34) (tgt := 61) rfl dX5_copies_31 (by decide +kernel) (fun c31 => ?_) (fun c31 => ?_)
      · refine sw_iconst (pc' := 62) (v := 0) rfl dX5_copies_61 (by decide +kernel) ?_
        refine sw_V (M' := MX5_isStopped) (d' := d - 1) (bc' := 0) (bs' := 0) (ci := 6) (as := [_, _, _]) dX5_copies_62 w_1174 ok_X5_isStopped (q_isStopped (a := true) (b := true) (c := false) hM hA) hM.ob rfl (by omega) (Nat.le_of_ble_eq_true rfl) (Nat.zero_le _) (Nat.zero_le _) (fun E h' n' _ z => rp_x z) (rp_k (fun p62 p62ρ p62τ p62M p62A p62F => ?_))
        obtain ⟨Gp62, hGp62, eGp62⟩ := p62M.out
        show SW _ _ _ _ _ _ _ (.int 1 :: _) _ _ _
        refine sw_if_eq (pc' := 68) (tgt := 70) rfl dX5_copies_65 (by decide +kernel) (fun c65 => ?_) (fun c65 => ?_)
        · exact absurd c65 (by decide +kernel)
        · refine sw_iconst (pc' := 69) (v := 0) rfl dX5_copies_68 (by decide +kernel) ?_
          refine sw_ret (v := some _) ⟨dX5_copies_69, _, rfl, rfl⟩ ?_
          rw [opCopies, onRw_y hk qk]
          exact pm_x tc_1 p62M p62A p62F (Nat.le_refl _)
      · exact absurd c31 (by decide +kernel)
    · refine sw_iload_n (pc' := 13) rfl dX5_copies_12 rfl ?_
      refine sw_iconst (pc' := 14) (v := 0) rfl dX5_copies_13 (by decide +kernel) ?_
      refine sw_bipush (pc' := 16) (v := 12) rfl dX5_copies_14 (by decide +kernel) ?_
      refine sw_S (M' := MX5_isIn) (d' := d - 1) (bc' := 0) (bs' := 0) (as := [_, _, _]) dX5_copies_16 w_1168 ok_X5_isIn (q_isIn) (by omega) (Nat.le_of_ble_eq_true rfl) (Nat.zero_le _) (Nat.zero_le _) (fun E h' n' _ z => det_x z) (det_k ?_)
      refine sw_if_ne (pc' := 22) (tgt := 26) rfl dX5_copies_19 (by decide +kernel) (fun c19 => ?_) (fun c19 => ?_)
      · refine sw_iconst (pc' := 27) (v := 0) rfl dX5_copies_26 (by decide +kernel) ?_
        refine sw_iload_n (pc' := 28) rfl dX5_copies_27 rfl ?_
        refine sw_S (M' := MX5_isNoRow) (d' := d - 1) (bc' := 0) (bs' := 0) (as := [_]) dX5_copies_28 w_1267 ok_X5_isNoRow (q_isNoRow (by omega)) (by omega) (Nat.le_of_ble_eq_true rfl) (Nat.zero_le _) (Nat.zero_le _) (fun E h' n' _ z => det_x z) (det_k ?_)
        rw [show nrB (nI k) = true from nrB_y hk qk]
        show SW _ _ _ _ _ _ _ (.int 1 :: _) _ _ _
        refine sw_if_ne (pc' := 34) (tgt := 61) rfl dX5_copies_31 (by decide +kernel) (fun c31 => ?_) (fun c31 => ?_)
        · refine sw_iconst (pc' := 62) (v := 0) rfl dX5_copies_61 (by decide +kernel) ?_
          refine sw_V (M' := MX5_isStopped) (d' := d - 1) (bc' := 0) (bs' := 0) (ci := 6) (as := [_, _, _]) dX5_copies_62 w_1174 ok_X5_isStopped (q_isStopped (a := true) (b := false) (c := false) hM hA) hM.ob rfl (by omega) (Nat.le_of_ble_eq_true rfl) (Nat.zero_le _) (Nat.zero_le _) (fun E h' n' _ z => rp_x z) (rp_k (fun p62 p62ρ p62τ p62M p62A p62F => ?_))
          obtain ⟨Gp62, hGp62, eGp62⟩ := p62M.out
          show SW _ _ _ _ _ _ _ (.int 1 :: _) _ _ _
          refine sw_if_eq (pc' := 68) (tgt := 70) rfl dX5_copies_65 (by decide +kernel) (fun c65 => ?_) (fun c65 => ?_)
          · exact absurd c65 (by decide +kernel)
          · refine sw_iconst (pc' := 69) (v := 0) rfl dX5_copies_68 (by decide +kernel) ?_
            refine sw_ret (v := some _) ⟨dX5_copies_69, _, rfl, rfl⟩ ?_
            rw [opCopies, onRw_y hk qk]
            exact pm_x tc_1 p62M p62A p62F (Nat.le_refl _)
        · exact absurd c31 (by decide +kernel)
      · refine sw_iconst (pc' := 23) (v := 1) rfl dX5_copies_22 (by decide +kernel) ?_
        refine sw_goto (tgt := 27) dX5_copies_23 (by decide +kernel) ?_
        refine sw_iload_n (pc' := 28) rfl dX5_copies_27 rfl ?_
        refine sw_S (M' := MX5_isNoRow) (d' := d - 1) (bc' := 0) (bs' := 0) (as := [_]) dX5_copies_28 w_1267 ok_X5_isNoRow (q_isNoRow (by omega)) (by omega) (Nat.le_of_ble_eq_true rfl) (Nat.zero_le _) (Nat.zero_le _) (fun E h' n' _ z => det_x z) (det_k ?_)
        rw [show nrB (nI k) = true from nrB_y hk qk]
        show SW _ _ _ _ _ _ _ (.int 1 :: _) _ _ _
        refine sw_if_ne (pc' := 34) (tgt := 61) rfl dX5_copies_31 (by decide +kernel) (fun c31 => ?_) (fun c31 => ?_)
        · refine sw_iconst (pc' := 62) (v := 0) rfl dX5_copies_61 (by decide +kernel) ?_
          refine sw_V (M' := MX5_isStopped) (d' := d - 1) (bc' := 0) (bs' := 0) (ci := 6) (as := [_, _, _]) dX5_copies_62 w_1174 ok_X5_isStopped (q_isStopped (a := true) (b := true) (c := false) hM hA) hM.ob rfl (by omega) (Nat.le_of_ble_eq_true rfl) (Nat.zero_le _) (Nat.zero_le _) (fun E h' n' _ z => rp_x z) (rp_k (fun p62 p62ρ p62τ p62M p62A p62F => ?_))
          obtain ⟨Gp62, hGp62, eGp62⟩ := p62M.out
          show SW _ _ _ _ _ _ _ (.int 1 :: _) _ _ _
          refine sw_if_eq (pc' := 68) (tgt := 70) rfl dX5_copies_65 (by decide +kernel) (fun c65 => ?_) (fun c65 => ?_)
          · exact absurd c65 (by decide +kernel)
          · refine sw_iconst (pc' := 69) (v := 0) rfl dX5_copies_68 (by decide +kernel) ?_
            refine sw_ret (v := some _) ⟨dX5_copies_69, _, rfl, rfl⟩ ?_
            rw [opCopies, onRw_y hk qk]
            exact pm_x tc_1 p62M p62A p62F (Nat.le_refl _)
        · exact absurd c31 (by decide +kernel)
  have hck := hI.1 k hk
  rcases Classical.em (x < 0 ∨ 100 < x) with qx | qx
  · refine sw_aload_n (pc' := 1) rfl dX5_copies_0 rfl ?_
    refine sw_iload_n (pc' := 2) rfl dX5_copies_1 rfl ?_
    refine sw_S (M' := MX5_isNoRow) (d' := d - 1) (bc' := 0) (bs' := 0) (as := [_]) dX5_copies_2 w_1267 ok_X5_isNoRow (q_isNoRow (by omega)) (by omega) (Nat.le_of_ble_eq_true rfl) (Nat.zero_le _) (Nat.zero_le _) (fun E h' n' _ z => det_x z) (det_k ?_)
    rw [show nrB (nI k) = false from nrB_k hk qk]
    show SW _ _ _ _ _ _ _ (.int 0 :: _) _ _ _
    refine sw_iload_n (pc' := 6) rfl dX5_copies_5 rfl ?_
    refine sw_S (M' := MX5_isNoThing) (d' := d - 1) (bc' := 0) (bs' := 0) (as := [_]) dX5_copies_6 w_1171 ok_X5_isNoThing (q_isNoThing (by omega)) (by omega) (Nat.le_of_ble_eq_true rfl) (Nat.zero_le _) (Nat.zero_le _) (fun E h' n' _ z => det_x z) (det_k ?_)
    rw [show inB x 0 100 = false from inB_x qx]
    show SW _ _ _ _ _ _ _ (.int 1 :: _) _ _ _
    refine sw_if_ne (pc' := 12) (tgt := 22) rfl dX5_copies_9 (by decide +kernel) (fun c9 => ?_) (fun c9 => ?_)
    · refine sw_iconst (pc' := 23) (v := 1) rfl dX5_copies_22 (by decide +kernel) ?_
      refine sw_goto (tgt := 27) dX5_copies_23 (by decide +kernel) ?_
      refine sw_iload_n (pc' := 28) rfl dX5_copies_27 rfl ?_
      refine sw_S (M' := MX5_isNoRow) (d' := d - 1) (bc' := 0) (bs' := 0) (as := [_]) dX5_copies_28 w_1267 ok_X5_isNoRow (q_isNoRow (by omega)) (by omega) (Nat.le_of_ble_eq_true rfl) (Nat.zero_le _) (Nat.zero_le _) (fun E h' n' _ z => det_x z) (det_k ?_)
      rw [show nrB (nI k) = false from nrB_k hk qk]
      show SW _ _ _ _ _ _ _ (.int 0 :: _) _ _ _
      refine sw_if_ne (pc' := 34) (tgt := 61) rfl dX5_copies_31 (by decide +kernel) (fun c31 => ?_) (fun c31 => ?_)
      · exact absurd c31 (by decide +kernel)
      · refine sw_iload_n (pc' := 35) rfl dX5_copies_34 rfl ?_
        refine sw_iconst (pc' := 36) (v := 0) rfl dX5_copies_35 (by decide +kernel) ?_
        refine sw_bipush (pc' := 38) (v := 12) rfl dX5_copies_36 (by decide +kernel) ?_
        refine sw_S (M' := MX5_isIn) (d' := d - 1) (bc' := 0) (bs' := 0) (as := [_, _, _]) dX5_copies_38 w_1168 ok_X5_isIn (q_isIn) (by omega) (Nat.le_of_ble_eq_true rfl) (Nat.zero_le _) (Nat.zero_le _) (fun E h' n' _ z => det_x z) (det_k ?_)
        refine sw_if_eq (pc' := 44) (tgt := 61) rfl dX5_copies_41 (by decide +kernel) (fun c41 => ?_) (fun c41 => ?_)
        · refine sw_iconst (pc' := 62) (v := 0) rfl dX5_copies_61 (by decide +kernel) ?_
          refine sw_V (M' := MX5_isStopped) (d' := d - 1) (bc' := 0) (bs' := 0) (ci := 6) (as := [_, _, _]) dX5_copies_62 w_1174 ok_X5_isStopped (q_isStopped (a := false) (b := true) (c := false) hM hA) hM.ob rfl (by omega) (Nat.le_of_ble_eq_true rfl) (Nat.zero_le _) (Nat.zero_le _) (fun E h' n' _ z => rp_x z) (rp_k (fun p62 p62ρ p62τ p62M p62A p62F => ?_))
          obtain ⟨Gp62, hGp62, eGp62⟩ := p62M.out
          show SW _ _ _ _ _ _ _ (.int 1 :: _) _ _ _
          refine sw_if_eq (pc' := 68) (tgt := 70) rfl dX5_copies_65 (by decide +kernel) (fun c65 => ?_) (fun c65 => ?_)
          · exact absurd c65 (by decide +kernel)
          · refine sw_iconst (pc' := 69) (v := 0) rfl dX5_copies_68 (by decide +kernel) ?_
            refine sw_ret (v := some _) ⟨dX5_copies_69, _, rfl, rfl⟩ ?_
            rw [opCopies, onRw_k hk qk, if_pos qx]
            exact pm_x (tc_2 sAI) p62M p62A p62F (Nat.le_refl _)
        · refine sw_aload_n (pc' := 45) rfl dX5_copies_44 rfl ?_
          refine sw_getf (ci := 6) (k := 4) (pc' := 48) rfl dX5_copies_45 (by decide +kernel) w_1117 hM.ob rfl ?_
          refine sw_iload_n (pc' := 49) rfl dX5_copies_48 rfl ?_
          refine sw_iald (j := k) (pc' := 50) rfl dX5_copies_49 hM.sz rfl (by omega) (by decide +kernel) ?_
          refine sw_iload_n (pc' := 51) rfl dX5_copies_50 rfl ?_
          refine sw_iadd (pc' := 52) rfl dX5_copies_51 ?_
          refine sw_bipush (pc' := 54) (v := 12) rfl dX5_copies_52 (by decide +kernel) ?_
          refine sw_icmp_le (pc' := 57) (tgt := 61) rfl dX5_copies_54 (by decide +kernel) (fun c54 => ?_) (fun c54 => ?_)
          · refine sw_iconst (pc' := 62) (v := 0) rfl dX5_copies_61 (by decide +kernel) ?_
            refine sw_V (M' := MX5_isStopped) (d' := d - 1) (bc' := 0) (bs' := 0) (ci := 6) (as := [_, _, _]) dX5_copies_62 w_1174 ok_X5_isStopped (q_isStopped (a := false) (b := true) (c := false) hM hA) hM.ob rfl (by omega) (Nat.le_of_ble_eq_true rfl) (Nat.zero_le _) (Nat.zero_le _) (fun E h' n' _ z => rp_x z) (rp_k (fun p62 p62ρ p62τ p62M p62A p62F => ?_))
            obtain ⟨Gp62, hGp62, eGp62⟩ := p62M.out
            show SW _ _ _ _ _ _ _ (.int 1 :: _) _ _ _
            refine sw_if_eq (pc' := 68) (tgt := 70) rfl dX5_copies_65 (by decide +kernel) (fun c65 => ?_) (fun c65 => ?_)
            · exact absurd c65 (by decide +kernel)
            · refine sw_iconst (pc' := 69) (v := 0) rfl dX5_copies_68 (by decide +kernel) ?_
              refine sw_ret (v := some _) ⟨dX5_copies_69, _, rfl, rfl⟩ ?_
              rw [opCopies, onRw_k hk qk, if_pos qx]
              exact pm_x (tc_2 sAI) p62M p62A p62F (Nat.le_refl _)
          · refine sw_iconst (pc' := 58) (v := 1) rfl dX5_copies_57 (by decide +kernel) ?_
            refine sw_goto (tgt := 62) dX5_copies_58 (by decide +kernel) ?_
            refine sw_V (M' := MX5_isStopped) (d' := d - 1) (bc' := 0) (bs' := 0) (ci := 6) (as := [_, _, _]) dX5_copies_62 w_1174 ok_X5_isStopped (q_isStopped (a := false) (b := true) (c := true) hM hA) hM.ob rfl (by omega) (Nat.le_of_ble_eq_true rfl) (Nat.zero_le _) (Nat.zero_le _) (fun E h' n' _ z => rp_x z) (rp_k (fun p62 p62ρ p62τ p62M p62A p62F => ?_))
            obtain ⟨Gp62, hGp62, eGp62⟩ := p62M.out
            show SW _ _ _ _ _ _ _ (.int 1 :: _) _ _ _
            refine sw_if_eq (pc' := 68) (tgt := 70) rfl dX5_copies_65 (by decide +kernel) (fun c65 => ?_) (fun c65 => ?_)
            · exact absurd c65 (by decide +kernel)
            · refine sw_iconst (pc' := 69) (v := 0) rfl dX5_copies_68 (by decide +kernel) ?_
              refine sw_ret (v := some _) ⟨dX5_copies_69, _, rfl, rfl⟩ ?_
              rw [opCopies, onRw_k hk qk, if_pos qx]
              exact pm_x (tc_2 sAI) p62M p62A p62F (Nat.le_refl _)
    · exact absurd c9 (by decide +kernel)
  rcases idxR 12 (by decide +kernel) m with qMm | ⟨Mm, hMm, rfl⟩
  · refine sw_aload_n (pc' := 1) rfl dX5_copies_0 rfl ?_
    refine sw_iload_n (pc' := 2) rfl dX5_copies_1 rfl ?_
    refine sw_S (M' := MX5_isNoRow) (d' := d - 1) (bc' := 0) (bs' := 0) (as := [_]) dX5_copies_2 w_1267 ok_X5_isNoRow (q_isNoRow (by omega)) (by omega) (Nat.le_of_ble_eq_true rfl) (Nat.zero_le _) (Nat.zero_le _) (fun E h' n' _ z => det_x z) (det_k ?_)
    rw [show nrB (nI k) = false from nrB_k hk qk]
    show SW _ _ _ _ _ _ _ (.int 0 :: _) _ _ _
    refine sw_iload_n (pc' := 6) rfl dX5_copies_5 rfl ?_
    refine sw_S (M' := MX5_isNoThing) (d' := d - 1) (bc' := 0) (bs' := 0) (as := [_]) dX5_copies_6 w_1171 ok_X5_isNoThing (q_isNoThing (by omega)) (by omega) (Nat.le_of_ble_eq_true rfl) (Nat.zero_le _) (Nat.zero_le _) (fun E h' n' _ z => det_x z) (det_k ?_)
    rw [show inB x 0 100 = true from inB_n qx]
    show SW _ _ _ _ _ _ _ (.int 0 :: _) _ _ _
    refine sw_if_ne (pc' := 12) (tgt := 22) rfl dX5_copies_9 (by decide +kernel) (fun c9 => ?_) (fun c9 => ?_)
    · exact absurd c9 (by decide +kernel)
    · refine sw_iload_n (pc' := 13) rfl dX5_copies_12 rfl ?_
      refine sw_iconst (pc' := 14) (v := 0) rfl dX5_copies_13 (by decide +kernel) ?_
      refine sw_bipush (pc' := 16) (v := 12) rfl dX5_copies_14 (by decide +kernel) ?_
      refine sw_S (M' := MX5_isIn) (d' := d - 1) (bc' := 0) (bs' := 0) (as := [_, _, _]) dX5_copies_16 w_1168 ok_X5_isIn (q_isIn) (by omega) (Nat.le_of_ble_eq_true rfl) (Nat.zero_le _) (Nat.zero_le _) (fun E h' n' _ z => det_x z) (det_k ?_)
      rw [show inB m 0 12 = false from inB_x qMm]
      show SW _ _ _ _ _ _ _ (.int 0 :: _) _ _ _
      refine sw_if_ne (pc' := 22) (tgt := 26) rfl dX5_copies_19 (by decide +kernel) (fun c19 => ?_) (fun c19 => ?_)
      · exact absurd c19 (by decide +kernel)
      · refine sw_iconst (pc' := 23) (v := 1) rfl dX5_copies_22 (by decide +kernel) ?_
        refine sw_goto (tgt := 27) dX5_copies_23 (by decide +kernel) ?_
        refine sw_iload_n (pc' := 28) rfl dX5_copies_27 rfl ?_
        refine sw_S (M' := MX5_isNoRow) (d' := d - 1) (bc' := 0) (bs' := 0) (as := [_]) dX5_copies_28 w_1267 ok_X5_isNoRow (q_isNoRow (by omega)) (by omega) (Nat.le_of_ble_eq_true rfl) (Nat.zero_le _) (Nat.zero_le _) (fun E h' n' _ z => det_x z) (det_k ?_)
        rw [show nrB (nI k) = false from nrB_k hk qk]
        show SW _ _ _ _ _ _ _ (.int 0 :: _) _ _ _
        refine sw_if_ne (pc' := 34) (tgt := 61) rfl dX5_copies_31 (by decide +kernel) (fun c31 => ?_) (fun c31 => ?_)
        · exact absurd c31 (by decide +kernel)
        · refine sw_iload_n (pc' := 35) rfl dX5_copies_34 rfl ?_
          refine sw_iconst (pc' := 36) (v := 0) rfl dX5_copies_35 (by decide +kernel) ?_
          refine sw_bipush (pc' := 38) (v := 12) rfl dX5_copies_36 (by decide +kernel) ?_
          refine sw_S (M' := MX5_isIn) (d' := d - 1) (bc' := 0) (bs' := 0) (as := [_, _, _]) dX5_copies_38 w_1168 ok_X5_isIn (q_isIn) (by omega) (Nat.le_of_ble_eq_true rfl) (Nat.zero_le _) (Nat.zero_le _) (fun E h' n' _ z => det_x z) (det_k ?_)
          rw [show inB m 0 12 = false from inB_x qMm]
          show SW _ _ _ _ _ _ _ (.int 0 :: _) _ _ _
          refine sw_if_eq (pc' := 44) (tgt := 61) rfl dX5_copies_41 (by decide +kernel) (fun c41 => ?_) (fun c41 => ?_)
          · refine sw_iconst (pc' := 62) (v := 0) rfl dX5_copies_61 (by decide +kernel) ?_
            refine sw_V (M' := MX5_isStopped) (d' := d - 1) (bc' := 0) (bs' := 0) (ci := 6) (as := [_, _, _]) dX5_copies_62 w_1174 ok_X5_isStopped (q_isStopped (a := false) (b := true) (c := false) hM hA) hM.ob rfl (by omega) (Nat.le_of_ble_eq_true rfl) (Nat.zero_le _) (Nat.zero_le _) (fun E h' n' _ z => rp_x z) (rp_k (fun p62 p62ρ p62τ p62M p62A p62F => ?_))
            obtain ⟨Gp62, hGp62, eGp62⟩ := p62M.out
            show SW _ _ _ _ _ _ _ (.int 1 :: _) _ _ _
            refine sw_if_eq (pc' := 68) (tgt := 70) rfl dX5_copies_65 (by decide +kernel) (fun c65 => ?_) (fun c65 => ?_)
            · exact absurd c65 (by decide +kernel)
            · refine sw_iconst (pc' := 69) (v := 0) rfl dX5_copies_68 (by decide +kernel) ?_
              refine sw_ret (v := some _) ⟨dX5_copies_69, _, rfl, rfl⟩ ?_
              rw [opCopies, onRw_k hk qk, if_neg qx, if_pos (show m < 0 ∨ 12 < m from qMm)]
              exact pm_x (tc_2 sAI) p62M p62A p62F (Nat.le_refl _)
          · exact absurd c41 (by decide +kernel)
  rcases Classical.em (12 < nI (σ.2.1 k) + nI Mm) with qr | qr
  · have hroom : 12 < σ.2.1 k + Mm := (roomS hck hMm).mp qr
    refine sw_aload_n (pc' := 1) rfl dX5_copies_0 rfl ?_
    refine sw_iload_n (pc' := 2) rfl dX5_copies_1 rfl ?_
    refine sw_S (M' := MX5_isNoRow) (d' := d - 1) (bc' := 0) (bs' := 0) (as := [_]) dX5_copies_2 w_1267 ok_X5_isNoRow (q_isNoRow (by omega)) (by omega) (Nat.le_of_ble_eq_true rfl) (Nat.zero_le _) (Nat.zero_le _) (fun E h' n' _ z => det_x z) (det_k ?_)
    rw [show nrB (nI k) = false from nrB_k hk qk]
    show SW _ _ _ _ _ _ _ (.int 0 :: _) _ _ _
    refine sw_iload_n (pc' := 6) rfl dX5_copies_5 rfl ?_
    refine sw_S (M' := MX5_isNoThing) (d' := d - 1) (bc' := 0) (bs' := 0) (as := [_]) dX5_copies_6 w_1171 ok_X5_isNoThing (q_isNoThing (by omega)) (by omega) (Nat.le_of_ble_eq_true rfl) (Nat.zero_le _) (Nat.zero_le _) (fun E h' n' _ z => det_x z) (det_k ?_)
    rw [show inB x 0 100 = true from inB_n qx]
    show SW _ _ _ _ _ _ _ (.int 0 :: _) _ _ _
    refine sw_if_ne (pc' := 12) (tgt := 22) rfl dX5_copies_9 (by decide +kernel) (fun c9 => ?_) (fun c9 => ?_)
    · exact absurd c9 (by decide +kernel)
    · refine sw_iload_n (pc' := 13) rfl dX5_copies_12 rfl ?_
      refine sw_iconst (pc' := 14) (v := 0) rfl dX5_copies_13 (by decide +kernel) ?_
      refine sw_bipush (pc' := 16) (v := 12) rfl dX5_copies_14 (by decide +kernel) ?_
      refine sw_S (M' := MX5_isIn) (d' := d - 1) (bc' := 0) (bs' := 0) (as := [_, _, _]) dX5_copies_16 w_1168 ok_X5_isIn (q_isIn) (by omega) (Nat.le_of_ble_eq_true rfl) (Nat.zero_le _) (Nat.zero_le _) (fun E h' n' _ z => det_x z) (det_k ?_)
      rw [show inB (nI Mm) 0 12 = true from inB_k (N := 12) hMm (by decide +kernel)]
      show SW _ _ _ _ _ _ _ (.int 1 :: _) _ _ _
      refine sw_if_ne (pc' := 22) (tgt := 26) rfl dX5_copies_19 (by decide +kernel) (fun c19 => ?_) (fun c19 => ?_)
      · refine sw_iconst (pc' := 27) (v := 0) rfl dX5_copies_26 (by decide +kernel) ?_
        refine sw_iload_n (pc' := 28) rfl dX5_copies_27 rfl ?_
        refine sw_S (M' := MX5_isNoRow) (d' := d - 1) (bc' := 0) (bs' := 0) (as := [_]) dX5_copies_28 w_1267 ok_X5_isNoRow (q_isNoRow (by omega)) (by omega) (Nat.le_of_ble_eq_true rfl) (Nat.zero_le _) (Nat.zero_le _) (fun E h' n' _ z => det_x z) (det_k ?_)
        rw [show nrB (nI k) = false from nrB_k hk qk]
        show SW _ _ _ _ _ _ _ (.int 0 :: _) _ _ _
        refine sw_if_ne (pc' := 34) (tgt := 61) rfl dX5_copies_31 (by decide +kernel) (fun c31 => ?_) (fun c31 => ?_)
        · exact absurd c31 (by decide +kernel)
        · refine sw_iload_n (pc' := 35) rfl dX5_copies_34 rfl ?_
          refine sw_iconst (pc' := 36) (v := 0) rfl dX5_copies_35 (by decide +kernel) ?_
          refine sw_bipush (pc' := 38) (v := 12) rfl dX5_copies_36 (by decide +kernel) ?_
          refine sw_S (M' := MX5_isIn) (d' := d - 1) (bc' := 0) (bs' := 0) (as := [_, _, _]) dX5_copies_38 w_1168 ok_X5_isIn (q_isIn) (by omega) (Nat.le_of_ble_eq_true rfl) (Nat.zero_le _) (Nat.zero_le _) (fun E h' n' _ z => det_x z) (det_k ?_)
          rw [show inB (nI Mm) 0 12 = true from inB_k (N := 12) hMm (by decide +kernel)]
          show SW _ _ _ _ _ _ _ (.int 1 :: _) _ _ _
          refine sw_if_eq (pc' := 44) (tgt := 61) rfl dX5_copies_41 (by decide +kernel) (fun c41 => ?_) (fun c41 => ?_)
          · exact absurd c41 (by decide +kernel)
          · refine sw_aload_n (pc' := 45) rfl dX5_copies_44 rfl ?_
            refine sw_getf (ci := 6) (k := 4) (pc' := 48) rfl dX5_copies_45 (by decide +kernel) w_1117 hM.ob rfl ?_
            refine sw_iload_n (pc' := 49) rfl dX5_copies_48 rfl ?_
            refine sw_iald (j := k) (pc' := 50) rfl dX5_copies_49 hM.sz rfl (by omega) (by decide +kernel) ?_
            refine sw_iload_n (pc' := 51) rfl dX5_copies_50 rfl ?_
            refine sw_iadd (pc' := 52) rfl dX5_copies_51 ?_
            rw [show (nI (σ.2.1 k)) + (nI Mm) = nI (σ.2.1 k + Mm) from nI_add _ _]
            refine sw_bipush (pc' := 54) (v := 12) rfl dX5_copies_52 (by decide +kernel) ?_
            refine sw_icmp_le (pc' := 57) (tgt := 61) rfl dX5_copies_54 (by decide +kernel) (fun c54 => ?_) (fun c54 => ?_)
            · exact absurd ((le12 (by omega)).mp c54) (by omega)
            · refine sw_iconst (pc' := 58) (v := 1) rfl dX5_copies_57 (by decide +kernel) ?_
              refine sw_goto (tgt := 62) dX5_copies_58 (by decide +kernel) ?_
              refine sw_V (M' := MX5_isStopped) (d' := d - 1) (bc' := 0) (bs' := 0) (ci := 6) (as := [_, _, _]) dX5_copies_62 w_1174 ok_X5_isStopped (q_isStopped (a := false) (b := false) (c := true) hM hA) hM.ob rfl (by omega) (Nat.le_of_ble_eq_true rfl) (Nat.zero_le _) (Nat.zero_le _) (fun E h' n' _ z => rp_x z) (rp_k (fun p62 p62ρ p62τ p62M p62A p62F => ?_))
              obtain ⟨Gp62, hGp62, eGp62⟩ := p62M.out
              show SW _ _ _ _ _ _ _ (.int 1 :: _) _ _ _
              refine sw_if_eq (pc' := 68) (tgt := 70) rfl dX5_copies_65 (by decide +kernel) (fun c65 => ?_) (fun c65 => ?_)
              · exact absurd c65 (by decide +kernel)
              · refine sw_iconst (pc' := 69) (v := 0) rfl dX5_copies_68 (by decide +kernel) ?_
                refine sw_ret (v := some _) ⟨dX5_copies_69, _, rfl, rfl⟩ ?_
                rw [opCopies, onRw_k hk qk, if_neg qx, if_neg (show ¬ (nI Mm < 0 ∨ 12 < nI Mm) from nin (N := 12) (by decide +kernel) hMm), nI_clamp (n := Mm) (by omega), if_pos qr]
                exact pm_x (tc_3 sSI sSA) p62M p62A p62F (Nat.le_refl _)
      · exact absurd c19 (by decide +kernel)
  have hroom : σ.2.1 k + Mm ≤ 12 := Nat.le_of_not_lt (fun g => qr ((roomS hck hMm).mpr g))
  refine sw_aload_n (pc' := 1) rfl dX5_copies_0 rfl ?_
  refine sw_iload_n (pc' := 2) rfl dX5_copies_1 rfl ?_
  refine sw_S (M' := MX5_isNoRow) (d' := d - 1) (bc' := 0) (bs' := 0) (as := [_]) dX5_copies_2 w_1267 ok_X5_isNoRow (q_isNoRow (by omega)) (by omega) (Nat.le_of_ble_eq_true rfl) (Nat.zero_le _) (Nat.zero_le _) (fun E h' n' _ z => det_x z) (det_k ?_)
  rw [show nrB (nI k) = false from nrB_k hk qk]
  show SW _ _ _ _ _ _ _ (.int 0 :: _) _ _ _
  refine sw_iload_n (pc' := 6) rfl dX5_copies_5 rfl ?_
  refine sw_S (M' := MX5_isNoThing) (d' := d - 1) (bc' := 0) (bs' := 0) (as := [_]) dX5_copies_6 w_1171 ok_X5_isNoThing (q_isNoThing (by omega)) (by omega) (Nat.le_of_ble_eq_true rfl) (Nat.zero_le _) (Nat.zero_le _) (fun E h' n' _ z => det_x z) (det_k ?_)
  rw [show inB x 0 100 = true from inB_n qx]
  show SW _ _ _ _ _ _ _ (.int 0 :: _) _ _ _
  refine sw_if_ne (pc' := 12) (tgt := 22) rfl dX5_copies_9 (by decide +kernel) (fun c9 => ?_) (fun c9 => ?_)
  · exact absurd c9 (by decide +kernel)
  · refine sw_iload_n (pc' := 13) rfl dX5_copies_12 rfl ?_
    refine sw_iconst (pc' := 14) (v := 0) rfl dX5_copies_13 (by decide +kernel) ?_
    refine sw_bipush (pc' := 16) (v := 12) rfl dX5_copies_14 (by decide +kernel) ?_
    refine sw_S (M' := MX5_isIn) (d' := d - 1) (bc' := 0) (bs' := 0) (as := [_, _, _]) dX5_copies_16 w_1168 ok_X5_isIn (q_isIn) (by omega) (Nat.le_of_ble_eq_true rfl) (Nat.zero_le _) (Nat.zero_le _) (fun E h' n' _ z => det_x z) (det_k ?_)
    rw [show inB (nI Mm) 0 12 = true from inB_k (N := 12) hMm (by decide +kernel)]
    show SW _ _ _ _ _ _ _ (.int 1 :: _) _ _ _
    refine sw_if_ne (pc' := 22) (tgt := 26) rfl dX5_copies_19 (by decide +kernel) (fun c19 => ?_) (fun c19 => ?_)
    · refine sw_iconst (pc' := 27) (v := 0) rfl dX5_copies_26 (by decide +kernel) ?_
      refine sw_iload_n (pc' := 28) rfl dX5_copies_27 rfl ?_
      refine sw_S (M' := MX5_isNoRow) (d' := d - 1) (bc' := 0) (bs' := 0) (as := [_]) dX5_copies_28 w_1267 ok_X5_isNoRow (q_isNoRow (by omega)) (by omega) (Nat.le_of_ble_eq_true rfl) (Nat.zero_le _) (Nat.zero_le _) (fun E h' n' _ z => det_x z) (det_k ?_)
      rw [show nrB (nI k) = false from nrB_k hk qk]
      show SW _ _ _ _ _ _ _ (.int 0 :: _) _ _ _
      refine sw_if_ne (pc' := 34) (tgt := 61) rfl dX5_copies_31 (by decide +kernel) (fun c31 => ?_) (fun c31 => ?_)
      · exact absurd c31 (by decide +kernel)
      · refine sw_iload_n (pc' := 35) rfl dX5_copies_34 rfl ?_
        refine sw_iconst (pc' := 36) (v := 0) rfl dX5_copies_35 (by decide +kernel) ?_
        refine sw_bipush (pc' := 38) (v := 12) rfl dX5_copies_36 (by decide +kernel) ?_
        refine sw_S (M' := MX5_isIn) (d' := d - 1) (bc' := 0) (bs' := 0) (as := [_, _, _]) dX5_copies_38 w_1168 ok_X5_isIn (q_isIn) (by omega) (Nat.le_of_ble_eq_true rfl) (Nat.zero_le _) (Nat.zero_le _) (fun E h' n' _ z => det_x z) (det_k ?_)
        rw [show inB (nI Mm) 0 12 = true from inB_k (N := 12) hMm (by decide +kernel)]
        show SW _ _ _ _ _ _ _ (.int 1 :: _) _ _ _
        refine sw_if_eq (pc' := 44) (tgt := 61) rfl dX5_copies_41 (by decide +kernel) (fun c41 => ?_) (fun c41 => ?_)
        · exact absurd c41 (by decide +kernel)
        · refine sw_aload_n (pc' := 45) rfl dX5_copies_44 rfl ?_
          refine sw_getf (ci := 6) (k := 4) (pc' := 48) rfl dX5_copies_45 (by decide +kernel) w_1117 hM.ob rfl ?_
          refine sw_iload_n (pc' := 49) rfl dX5_copies_48 rfl ?_
          refine sw_iald (j := k) (pc' := 50) rfl dX5_copies_49 hM.sz rfl (by omega) (by decide +kernel) ?_
          refine sw_iload_n (pc' := 51) rfl dX5_copies_50 rfl ?_
          refine sw_iadd (pc' := 52) rfl dX5_copies_51 ?_
          rw [show (nI (σ.2.1 k)) + (nI Mm) = nI (σ.2.1 k + Mm) from nI_add _ _]
          refine sw_bipush (pc' := 54) (v := 12) rfl dX5_copies_52 (by decide +kernel) ?_
          refine sw_icmp_le (pc' := 57) (tgt := 61) rfl dX5_copies_54 (by decide +kernel) (fun c54 => ?_) (fun c54 => ?_)
          · refine sw_iconst (pc' := 62) (v := 0) rfl dX5_copies_61 (by decide +kernel) ?_
            refine sw_V (M' := MX5_isStopped) (d' := d - 1) (bc' := 0) (bs' := 0) (ci := 6) (as := [_, _, _]) dX5_copies_62 w_1174 ok_X5_isStopped (q_isStopped (a := false) (b := false) (c := false) hM hA) hM.ob rfl (by omega) (Nat.le_of_ble_eq_true rfl) (Nat.zero_le _) (Nat.zero_le _) (fun E h' n' _ z => rp_x z) (rp_k (fun p62 p62ρ p62τ p62M p62A p62F => ?_))
            obtain ⟨Gp62, hGp62, eGp62⟩ := p62M.out
            show SW _ _ _ _ _ _ _ (.int 0 :: _) _ _ _
            refine sw_if_eq (pc' := 68) (tgt := 70) rfl dX5_copies_65 (by decide +kernel) (fun c65 => ?_) (fun c65 => ?_)
            · refine sw_iconst (pc' := 71) (v := 0) rfl dX5_copies_70 (by decide +kernel) ?_
              refine sw_istore (pc' := 73) (lv' := [(4, _), (0, _), (1, _), (2, _), (3, _)]) rfl dX5_copies_71 (by decide +kernel) rfl ?_
              have g := ql_copies (d := d) (bc := bc) (bs := bs) (x := x) hk qk hMm (by omega) Mm 0 p62 _ _ σ (by omega) hroom p62M p62A p62F
              refine SW.post g (fun r' h' n' z => ?_)
              obtain ⟨rfl, rfl, ⟨_, _, qM, qA⟩, qF⟩ := z
              rw [opCopies, onRw_k hk qk, if_neg qx, if_neg (show ¬ (nI Mm < 0 ∨ 12 < nI Mm) from nin (N := 12) (by decide +kernel) hMm), nI_clamp (n := Mm) (by omega), if_neg qr]
              exact pm_k qM qA qF (Nat.le_refl _)
            · exact absurd c65 (by decide +kernel)
          · exact absurd ((le12 (by omega)).mpr (by omega)) c54
    · exact absurd c19 (by decide +kernel)
theorem ql_skip {h0 : AH} {d bc bs n k A B G : Nat} {σ : CS} {th : Int32} (hk : k < 6) (hm : (σ.2.2.2.2.1 k).1 = true) (ov : wO σ k < 11) (hc : σ.2.1 (wO σ k) ≤ 12) (eA : wAh σ k = nI A) (hGB : G ≤ B) (hB : B ≤ 12) (hGc : A + G ≤ σ.2.1 (wO σ k)) (hG : G = B ∨ A + G = σ.2.1 (wO σ k)) (hd : 1 ≤ d) (m : Nat) : ∀ (j : Nat) (h : AH) (ρ : Nat → Nat → Int32) (τ : Nat → Int32), j + m = G → MM h ρ τ (gvU σ k j) th → AG ρ τ (gvU σ k j) → FrM h0 h n → SW SR0 MX5_skip d bc bs 48 [(3, .int (nI j)), (0, .ref 135), (1, .int (nI k)), (2, .int (nI B))] [] h n (fun r' h' n' => r' = .inl (some (.int (nI G))) ∧ n' = n ∧ RMo h' (gvU σ k G) th ∧ FrM h0 h' n) := by
  induction m with
  | zero =>
    intro j h ρ τ hj hM hA hF
    obtain ⟨G0, hG0, eG0⟩ := hM.out
    have hjG : j = G := by omega
    subst hjG
    refine sw_iload_n (pc' := 49) rfl dX5_skip_48 rfl ?_
    refine sw_iload_n (pc' := 50) rfl dX5_skip_49 rfl ?_
    refine sw_icmp_ge (pc' := 53) (tgt := 73) rfl dX5_skip_50 (by decide +kernel) (fun c50 => ?_) (fun c50 => ?_)
    · refine sw_iload_n (pc' := 74) rfl dX5_skip_73 rfl ?_
      refine sw_ret (v := some _) ⟨dX5_skip_74, _, rfl, rfl⟩ ?_
      exact ⟨rfl, rfl, ⟨_, _, hM, hA⟩, hF⟩
    · refine sw_aload_n (pc' := 54) rfl dX5_skip_53 rfl ?_
      refine sw_iload_n (pc' := 55) rfl dX5_skip_54 rfl ?_
      refine sw_V (M' := MX5_hasMore) (d' := d - 1) (bc' := 0) (bs' := 0) (ci := 6) (as := [_]) dX5_skip_55 w_1321 ok_X5_hasMore (q_hasMore hM hk (wMk_g.trans hm) (by rw [wO_g]; exact ov)) hM.ob rfl (by omega) (Nat.le_of_ble_eq_true rfl) (Nat.zero_le _) (Nat.zero_le _) (fun E h' n' _ z => det_x z) (det_k ?_)
      rw [wO_g, wAh_g eA]
      show SW _ _ _ _ _ _ _ (.int (bI (decide (nI (A + j) < nI (σ.2.1 (wO σ k))))) :: _) _ _ _
      refine sw_if_eq (pc' := 61) (tgt := 73) rfl dX5_skip_58 (by decide +kernel) (fun c58 => ?_) (fun c58 => ?_)
      · refine sw_iload_n (pc' := 74) rfl dX5_skip_73 rfl ?_
        refine sw_ret (v := some _) ⟨dX5_skip_74, _, rfl, rfl⟩ ?_
        exact ⟨rfl, rfl, ⟨_, _, hM, hA⟩, hF⟩
      · have g1 := (nI_ltI (by omega) (by omega)).mp (of_decide_eq_true (bI_1 c58))
        have g2 : ¬ B ≤ j := (fun q => c50 ((nI_leI (a := B) (b := j) (by omega) (by omega)).mpr q))
        exact absurd hG (by omega)
  | succ m ih =>
    intro j h ρ τ hj hM hA hF
    obtain ⟨G0, hG0, eG0⟩ := hM.out
    refine sw_iload_n (pc' := 49) rfl dX5_skip_48 rfl ?_
    refine sw_iload_n (pc' := 50) rfl dX5_skip_49 rfl ?_
    refine sw_icmp_ge (pc' := 53) (tgt := 73) rfl dX5_skip_50 (by decide +kernel) (fun c50 => ?_) (fun c50 => ?_)
    · exact absurd c50 (nI_ge (by omega) (by omega))
    · refine sw_aload_n (pc' := 54) rfl dX5_skip_53 rfl ?_
      refine sw_iload_n (pc' := 55) rfl dX5_skip_54 rfl ?_
      refine sw_V (M' := MX5_hasMore) (d' := d - 1) (bc' := 0) (bs' := 0) (ci := 6) (as := [_]) dX5_skip_55 w_1321 ok_X5_hasMore (q_hasMore hM hk (wMk_g.trans hm) (by rw [wO_g]; exact ov)) hM.ob rfl (by omega) (Nat.le_of_ble_eq_true rfl) (Nat.zero_le _) (Nat.zero_le _) (fun E h' n' _ z => det_x z) (det_k ?_)
      rw [wO_g, wAh_g eA]
      show SW _ _ _ _ _ _ _ (.int (bI (decide (nI (A + j) < nI (σ.2.1 (wO σ k))))) :: _) _ _ _
      refine sw_if_eq (pc' := 61) (tgt := 73) rfl dX5_skip_58 (by decide +kernel) (fun c58 => ?_) (fun c58 => ?_)
      · exact absurd (nI_lt (a := A + j) (by omega) (by omega)) (of_decide_eq_false (bI_0 c58))
      · refine sw_aload_n (pc' := 62) rfl dX5_skip_61 rfl ?_
        refine sw_iload_n (pc' := 63) rfl dX5_skip_62 rfl ?_
        refine sw_V (M' := MX5_give) (d' := d - 1) (bc' := 0) (bs' := 0) (ci := 6) (as := [_]) dX5_skip_63 w_1325 ok_X5_give (q_giveG hM hA hk hm ov hc eA (by omega)) hM.ob rfl (by omega) (Nat.le_of_ble_eq_true rfl) (Nat.zero_le _) (Nat.zero_le _) (fun E h' n' _ z => rp_x z) (rp_k (fun p pρ pτ pM pA pF => ?_))
        obtain ⟨Gp, hGp, eGp⟩ := pM.out
        refine sw_pop (pc' := 67) rfl dX5_skip_66 rfl ?_
        refine sw_iinc (pc' := 70) (lv' := [(3, _), (0, _), (1, _), (2, _)]) (v := nI (j + 1)) rfl dX5_skip_67 rfl (nI_1 j) (by decide +kernel) rfl ?_
        refine sw_goto (tgt := 48) dX5_skip_70 (by decide +kernel) ?_
        exact ih (j + 1) p pρ pτ (by omega) pM pA (hF.tr pF (Nat.le_refl _))
theorem q_skip {h : AH} {d bc bs n : Nat} {σ : CS} {th : Int32} {a x : Int32} (hR : RMo h σ th) (hI : Iv σ) (hn : 159 ≤ n) (hd : 8 ≤ d) (h1 : 1 ≤ bc) (h2 : 12 ≤ bs)  : SM SR0 MX5_skip d bc bs [.ref 135, .int a, .int x] h n (PM h n (tc sI sA) (opSkip σ a x)) := by
  obtain ⟨ρ, τ, hM, hA⟩ := hR
  obtain ⟨G0, hG0, eG0⟩ := hM.out
  refine sm_of pn_OverwalksModel rfl (Nat.le_of_ble_eq_true rfl) ?_
  rcases idxN 6 (by decide +kernel) a with qk1 | ⟨k, hk, rfl⟩
  · refine sw_aload_n (pc' := 1) rfl dX5_skip_0 rfl ?_
    refine sw_iload_n (pc' := 2) rfl dX5_skip_1 rfl ?_
    refine sw_S (M' := MX5_isNoWalk) (d' := d - 1) (bc' := 0) (bs' := 0) (as := [_]) dX5_skip_2 w_1306 ok_X5_isNoWalk (q_isNoWalk (by omega)) (by omega) (Nat.le_of_ble_eq_true rfl) (Nat.zero_le _) (Nat.zero_le _) (fun E h' n' _ z => det_x z) (det_k ?_)
    rw [show inB a 0 5 = false from no_x (N := 5) (by decide +kernel) qk1]
    show SW _ _ _ _ _ _ _ (.int 1 :: _) _ _ _
    refine sw_iload_n (pc' := 6) rfl dX5_skip_5 rfl ?_
    refine sw_iconst (pc' := 7) (v := 0) rfl dX5_skip_6 (by decide +kernel) ?_
    refine sw_bipush (pc' := 9) (v := 12) rfl dX5_skip_7 (by decide +kernel) ?_
    refine sw_S (M' := MX5_isIn) (d' := d - 1) (bc' := 0) (bs' := 0) (as := [_, _, _]) dX5_skip_9 w_1168 ok_X5_isIn (q_isIn) (by omega) (Nat.le_of_ble_eq_true rfl) (Nat.zero_le _) (Nat.zero_le _) (fun E h' n' _ z => det_x z) (det_k ?_)
    refine sw_if_ne (pc' := 15) (tgt := 19) rfl dX5_skip_12 (by decide +kernel) (fun c12 => ?_) (fun c12 => ?_)
    · refine sw_iconst (pc' := 20) (v := 0) rfl dX5_skip_19 (by decide +kernel) ?_
      refine sw_aload_n (pc' := 21) rfl dX5_skip_20 rfl ?_
      refine sw_iload_n (pc' := 22) rfl dX5_skip_21 rfl ?_
      refine sw_V (M' := MX5_isUnmade) (d' := d - 1) (bc' := 0) (bs' := 0) (ci := 6) (as := [_]) dX5_skip_22 w_1313 ok_X5_isUnmade (q_isUnmade_x hM (no_x (N := 5) (by decide +kernel) qk1) (by omega)) hM.ob rfl (by omega) (Nat.le_of_ble_eq_true rfl) (Nat.zero_le _) (Nat.zero_le _) (fun E h' n' _ z => det_x z) (det_k ?_)
      refine sw_V (M' := MX5_isStopped) (d' := d - 1) (bc' := 0) (bs' := 0) (ci := 6) (as := [_, _, _]) dX5_skip_25 w_1174 ok_X5_isStopped (q_isStopped (a := true) (b := false) (c := false) hM hA) hM.ob rfl (by omega) (Nat.le_of_ble_eq_true rfl) (Nat.zero_le _) (Nat.zero_le _) (fun E h' n' _ z => rp_x z) (rp_k (fun p25 p25ρ p25τ p25M p25A p25F => ?_))
      obtain ⟨Gp25, hGp25, eGp25⟩ := p25M.out
      show SW _ _ _ _ _ _ _ (.int 1 :: _) _ _ _
      refine sw_if_eq (pc' := 31) (tgt := 33) rfl dX5_skip_28 (by decide +kernel) (fun c28 => ?_) (fun c28 => ?_)
      · exact absurd c28 (by decide +kernel)
      · refine sw_iconst (pc' := 32) (v := 0) rfl dX5_skip_31 (by decide +kernel) ?_
        refine sw_ret (v := some _) ⟨dX5_skip_32, _, rfl, rfl⟩ ?_
        rw [opSkip, onWk_x qk1]
        exact pm_x tc_1 p25M p25A p25F (Nat.le_refl _)
    · refine sw_iconst (pc' := 16) (v := 1) rfl dX5_skip_15 (by decide +kernel) ?_
      refine sw_goto (tgt := 20) dX5_skip_16 (by decide +kernel) ?_
      refine sw_aload_n (pc' := 21) rfl dX5_skip_20 rfl ?_
      refine sw_iload_n (pc' := 22) rfl dX5_skip_21 rfl ?_
      refine sw_V (M' := MX5_isUnmade) (d' := d - 1) (bc' := 0) (bs' := 0) (ci := 6) (as := [_]) dX5_skip_22 w_1313 ok_X5_isUnmade (q_isUnmade_x hM (no_x (N := 5) (by decide +kernel) qk1) (by omega)) hM.ob rfl (by omega) (Nat.le_of_ble_eq_true rfl) (Nat.zero_le _) (Nat.zero_le _) (fun E h' n' _ z => det_x z) (det_k ?_)
      refine sw_V (M' := MX5_isStopped) (d' := d - 1) (bc' := 0) (bs' := 0) (ci := 6) (as := [_, _, _]) dX5_skip_25 w_1174 ok_X5_isStopped (q_isStopped (a := true) (b := true) (c := false) hM hA) hM.ob rfl (by omega) (Nat.le_of_ble_eq_true rfl) (Nat.zero_le _) (Nat.zero_le _) (fun E h' n' _ z => rp_x z) (rp_k (fun p25 p25ρ p25τ p25M p25A p25F => ?_))
      obtain ⟨Gp25, hGp25, eGp25⟩ := p25M.out
      show SW _ _ _ _ _ _ _ (.int 1 :: _) _ _ _
      refine sw_if_eq (pc' := 31) (tgt := 33) rfl dX5_skip_28 (by decide +kernel) (fun c28 => ?_) (fun c28 => ?_)
      · exact absurd c28 (by decide +kernel)
      · refine sw_iconst (pc' := 32) (v := 0) rfl dX5_skip_31 (by decide +kernel) ?_
        refine sw_ret (v := some _) ⟨dX5_skip_32, _, rfl, rfl⟩ ?_
        rw [opSkip, onWk_x qk1]
        exact pm_x tc_1 p25M p25A p25F (Nat.le_refl _)
  have ovk := hI.2.2.2.2.2.2.1 k hk
  have hcwk := hI.1 _ ovk
  rcases idxR 12 (by decide +kernel) x with qB | ⟨B, hB, rfl⟩
  · refine sw_aload_n (pc' := 1) rfl dX5_skip_0 rfl ?_
    refine sw_iload_n (pc' := 2) rfl dX5_skip_1 rfl ?_
    refine sw_S (M' := MX5_isNoWalk) (d' := d - 1) (bc' := 0) (bs' := 0) (as := [_]) dX5_skip_2 w_1306 ok_X5_isNoWalk (q_isNoWalk (by omega)) (by omega) (Nat.le_of_ble_eq_true rfl) (Nat.zero_le _) (Nat.zero_le _) (fun E h' n' _ z => det_x z) (det_k ?_)
    rw [show inB (nI k) 0 5 = true from inB_k (N := 5) (by omega) (by decide +kernel)]
    show SW _ _ _ _ _ _ _ (.int 0 :: _) _ _ _
    refine sw_iload_n (pc' := 6) rfl dX5_skip_5 rfl ?_
    refine sw_iconst (pc' := 7) (v := 0) rfl dX5_skip_6 (by decide +kernel) ?_
    refine sw_bipush (pc' := 9) (v := 12) rfl dX5_skip_7 (by decide +kernel) ?_
    refine sw_S (M' := MX5_isIn) (d' := d - 1) (bc' := 0) (bs' := 0) (as := [_, _, _]) dX5_skip_9 w_1168 ok_X5_isIn (q_isIn) (by omega) (Nat.le_of_ble_eq_true rfl) (Nat.zero_le _) (Nat.zero_le _) (fun E h' n' _ z => det_x z) (det_k ?_)
    rw [show inB x 0 12 = false from inB_x qB]
    show SW _ _ _ _ _ _ _ (.int 0 :: _) _ _ _
    refine sw_if_ne (pc' := 15) (tgt := 19) rfl dX5_skip_12 (by decide +kernel) (fun c12 => ?_) (fun c12 => ?_)
    · exact absurd c12 (by decide +kernel)
    · refine sw_iconst (pc' := 16) (v := 1) rfl dX5_skip_15 (by decide +kernel) ?_
      refine sw_goto (tgt := 20) dX5_skip_16 (by decide +kernel) ?_
      refine sw_aload_n (pc' := 21) rfl dX5_skip_20 rfl ?_
      refine sw_iload_n (pc' := 22) rfl dX5_skip_21 rfl ?_
      refine sw_V (M' := MX5_isUnmade) (d' := d - 1) (bc' := 0) (bs' := 0) (ci := 6) (as := [_]) dX5_skip_22 w_1313 ok_X5_isUnmade (q_isUnmade_k hM (k := k) (by omega) (hI.2.2.2.2.2.2.1 k (by omega)) (by omega)) hM.ob rfl (by omega) (Nat.le_of_ble_eq_true rfl) (Nat.zero_le _) (Nat.zero_le _) (fun E h' n' _ z => det_x z) (det_k ?_)
      refine sw_V (M' := MX5_isStopped) (d' := d - 1) (bc' := 0) (bs' := 0) (ci := 6) (as := [_, _, _]) dX5_skip_25 w_1174 ok_X5_isStopped (q_isStopped (a := false) (b := true) (c := (!(σ.2.2.2.2.1 k).1)) hM hA) hM.ob rfl (by omega) (Nat.le_of_ble_eq_true rfl) (Nat.zero_le _) (Nat.zero_le _) (fun E h' n' _ z => rp_x z) (rp_k (fun p25 p25ρ p25τ p25M p25A p25F => ?_))
      obtain ⟨Gp25, hGp25, eGp25⟩ := p25M.out
      show SW _ _ _ _ _ _ _ (.int 1 :: _) _ _ _
      refine sw_if_eq (pc' := 31) (tgt := 33) rfl dX5_skip_28 (by decide +kernel) (fun c28 => ?_) (fun c28 => ?_)
      · exact absurd c28 (by decide +kernel)
      · refine sw_iconst (pc' := 32) (v := 0) rfl dX5_skip_31 (by decide +kernel) ?_
        refine sw_ret (v := some _) ⟨dX5_skip_32, _, rfl, rfl⟩ ?_
        rw [opSkip, onWk_k hk, if_pos (show x < 0 ∨ 12 < x from qB)]
        exact pm_x (tc_2 sAI) p25M p25A p25F (Nat.le_refl _)
  rcases Classical.em ((σ.2.2.2.2.1 k).1 = false) with qm | qm
  · refine sw_aload_n (pc' := 1) rfl dX5_skip_0 rfl ?_
    refine sw_iload_n (pc' := 2) rfl dX5_skip_1 rfl ?_
    refine sw_S (M' := MX5_isNoWalk) (d' := d - 1) (bc' := 0) (bs' := 0) (as := [_]) dX5_skip_2 w_1306 ok_X5_isNoWalk (q_isNoWalk (by omega)) (by omega) (Nat.le_of_ble_eq_true rfl) (Nat.zero_le _) (Nat.zero_le _) (fun E h' n' _ z => det_x z) (det_k ?_)
    rw [show inB (nI k) 0 5 = true from inB_k (N := 5) (by omega) (by decide +kernel)]
    show SW _ _ _ _ _ _ _ (.int 0 :: _) _ _ _
    refine sw_iload_n (pc' := 6) rfl dX5_skip_5 rfl ?_
    refine sw_iconst (pc' := 7) (v := 0) rfl dX5_skip_6 (by decide +kernel) ?_
    refine sw_bipush (pc' := 9) (v := 12) rfl dX5_skip_7 (by decide +kernel) ?_
    refine sw_S (M' := MX5_isIn) (d' := d - 1) (bc' := 0) (bs' := 0) (as := [_, _, _]) dX5_skip_9 w_1168 ok_X5_isIn (q_isIn) (by omega) (Nat.le_of_ble_eq_true rfl) (Nat.zero_le _) (Nat.zero_le _) (fun E h' n' _ z => det_x z) (det_k ?_)
    rw [show inB (nI B) 0 12 = true from inB_k (N := 12) hB (by decide +kernel)]
    show SW _ _ _ _ _ _ _ (.int 1 :: _) _ _ _
    refine sw_if_ne (pc' := 15) (tgt := 19) rfl dX5_skip_12 (by decide +kernel) (fun c12 => ?_) (fun c12 => ?_)
    · refine sw_iconst (pc' := 20) (v := 0) rfl dX5_skip_19 (by decide +kernel) ?_
      refine sw_aload_n (pc' := 21) rfl dX5_skip_20 rfl ?_
      refine sw_iload_n (pc' := 22) rfl dX5_skip_21 rfl ?_
      refine sw_V (M' := MX5_isUnmade) (d' := d - 1) (bc' := 0) (bs' := 0) (ci := 6) (as := [_]) dX5_skip_22 w_1313 ok_X5_isUnmade (q_isUnmade_k hM (k := k) (by omega) (hI.2.2.2.2.2.2.1 k (by omega)) (by omega)) hM.ob rfl (by omega) (Nat.le_of_ble_eq_true rfl) (Nat.zero_le _) (Nat.zero_le _) (fun E h' n' _ z => det_x z) (det_k ?_)
      rw [show (σ.2.2.2.2.1 k).1 = false from qm]
      show SW _ _ _ _ _ _ _ (.int 1 :: _) _ _ _
      refine sw_V (M' := MX5_isStopped) (d' := d - 1) (bc' := 0) (bs' := 0) (ci := 6) (as := [_, _, _]) dX5_skip_25 w_1174 ok_X5_isStopped (q_isStopped (a := false) (b := false) (c := true) hM hA) hM.ob rfl (by omega) (Nat.le_of_ble_eq_true rfl) (Nat.zero_le _) (Nat.zero_le _) (fun E h' n' _ z => rp_x z) (rp_k (fun p25 p25ρ p25τ p25M p25A p25F => ?_))
      obtain ⟨Gp25, hGp25, eGp25⟩ := p25M.out
      show SW _ _ _ _ _ _ _ (.int 1 :: _) _ _ _
      refine sw_if_eq (pc' := 31) (tgt := 33) rfl dX5_skip_28 (by decide +kernel) (fun c28 => ?_) (fun c28 => ?_)
      · exact absurd c28 (by decide +kernel)
      · refine sw_iconst (pc' := 32) (v := 0) rfl dX5_skip_31 (by decide +kernel) ?_
        refine sw_ret (v := some _) ⟨dX5_skip_32, _, rfl, rfl⟩ ?_
        rw [opSkip, onWk_k hk, if_neg (show ¬ (nI B < 0 ∨ 12 < nI B) from nin (N := 12) (by decide +kernel) hB), nI_clamp (n := B) (by omega), if_pos qm]
        exact pm_x (tc_3 sSI sSA) p25M p25A p25F (Nat.le_refl _)
    · exact absurd c12 (by decide +kernel)
  refine sw_aload_n (pc' := 1) rfl dX5_skip_0 rfl ?_
  refine sw_iload_n (pc' := 2) rfl dX5_skip_1 rfl ?_
  refine sw_S (M' := MX5_isNoWalk) (d' := d - 1) (bc' := 0) (bs' := 0) (as := [_]) dX5_skip_2 w_1306 ok_X5_isNoWalk (q_isNoWalk (by omega)) (by omega) (Nat.le_of_ble_eq_true rfl) (Nat.zero_le _) (Nat.zero_le _) (fun E h' n' _ z => det_x z) (det_k ?_)
  rw [show inB (nI k) 0 5 = true from inB_k (N := 5) (by omega) (by decide +kernel)]
  show SW _ _ _ _ _ _ _ (.int 0 :: _) _ _ _
  refine sw_iload_n (pc' := 6) rfl dX5_skip_5 rfl ?_
  refine sw_iconst (pc' := 7) (v := 0) rfl dX5_skip_6 (by decide +kernel) ?_
  refine sw_bipush (pc' := 9) (v := 12) rfl dX5_skip_7 (by decide +kernel) ?_
  refine sw_S (M' := MX5_isIn) (d' := d - 1) (bc' := 0) (bs' := 0) (as := [_, _, _]) dX5_skip_9 w_1168 ok_X5_isIn (q_isIn) (by omega) (Nat.le_of_ble_eq_true rfl) (Nat.zero_le _) (Nat.zero_le _) (fun E h' n' _ z => det_x z) (det_k ?_)
  rw [show inB (nI B) 0 12 = true from inB_k (N := 12) hB (by decide +kernel)]
  show SW _ _ _ _ _ _ _ (.int 1 :: _) _ _ _
  refine sw_if_ne (pc' := 15) (tgt := 19) rfl dX5_skip_12 (by decide +kernel) (fun c12 => ?_) (fun c12 => ?_)
  · refine sw_iconst (pc' := 20) (v := 0) rfl dX5_skip_19 (by decide +kernel) ?_
    refine sw_aload_n (pc' := 21) rfl dX5_skip_20 rfl ?_
    refine sw_iload_n (pc' := 22) rfl dX5_skip_21 rfl ?_
    refine sw_V (M' := MX5_isUnmade) (d' := d - 1) (bc' := 0) (bs' := 0) (ci := 6) (as := [_]) dX5_skip_22 w_1313 ok_X5_isUnmade (q_isUnmade_k hM (k := k) (by omega) (hI.2.2.2.2.2.2.1 k (by omega)) (by omega)) hM.ob rfl (by omega) (Nat.le_of_ble_eq_true rfl) (Nat.zero_le _) (Nat.zero_le _) (fun E h' n' _ z => det_x z) (det_k ?_)
    rw [show (σ.2.2.2.2.1 k).1 = true from (mkT qm)]
    show SW _ _ _ _ _ _ _ (.int 0 :: _) _ _ _
    refine sw_V (M' := MX5_isStopped) (d' := d - 1) (bc' := 0) (bs' := 0) (ci := 6) (as := [_, _, _]) dX5_skip_25 w_1174 ok_X5_isStopped (q_isStopped (a := false) (b := false) (c := false) hM hA) hM.ob rfl (by omega) (Nat.le_of_ble_eq_true rfl) (Nat.zero_le _) (Nat.zero_le _) (fun E h' n' _ z => rp_x z) (rp_k (fun p25 p25ρ p25τ p25M p25A p25F => ?_))
    obtain ⟨Gp25, hGp25, eGp25⟩ := p25M.out
    show SW _ _ _ _ _ _ _ (.int 0 :: _) _ _ _
    refine sw_if_eq (pc' := 31) (tgt := 33) rfl dX5_skip_28 (by decide +kernel) (fun c28 => ?_) (fun c28 => ?_)
    · refine sw_aload_n (pc' := 34) rfl dX5_skip_33 rfl ?_
      refine sw_iload_n (pc' := 35) rfl dX5_skip_34 rfl ?_
      refine sw_V (M' := MX5_isStale) (d' := d - 1) (bc' := 0) (bs' := 0) (ci := 6) (as := [_]) dX5_skip_35 w_1317 ok_X5_isStale (q_isStale p25M (k := k) (by omega) (mkT qm) (hI.2.2.2.2.2.2.1 k (by omega))) p25M.ob rfl (by omega) (Nat.le_of_ble_eq_true rfl) (Nat.zero_le _) (Nat.zero_le _) (fun E h' n' _ z => det_x z) (det_k ?_)
      refine sw_if_eq (pc' := 41) (tgt := 46) rfl dX5_skip_38 (by decide +kernel) (fun c38 => ?_) (fun c38 => ?_)
      · refine sw_iconst (pc' := 47) (v := 0) rfl dX5_skip_46 (by decide +kernel) ?_
        refine sw_istore_n (pc' := 48) (lv' := [(3, _), (0, _), (1, _), (2, _)]) rfl dX5_skip_47 (by decide +kernel) rfl ?_
        obtain ⟨A, eA, hA1, hA2⟩ := hI.2.2.2.2.2.2.2 k hk (mkT qm) (bI_0 c38)
        have eG := wGu_c (m := B) (bI_0 c38) hcwk eA hA1
        have g := ql_skip (d := d) (bc := bc) (bs := bs) (A := A) (B := B) (G := wGu σ k B) hk (mkT qm) ovk hcwk eA (by rw [eG]; split <;> omega) hB (by rw [eG]; split <;> omega) (by rw [eG]; split <;> omega) (by omega) (wGu σ k B) 0 p25 _ _ (by omega) (by rw [gvU_0]; exact p25M) (by rw [gvU_0]; exact p25A) p25F
        refine SW.post g (fun r' h' n' z => ?_)
        obtain ⟨rfl, rfl, ⟨_, _, qM, qA⟩, qF⟩ := z
        rw [opSkip, onWk_k hk, if_neg (show ¬ (nI B < 0 ∨ 12 < nI B) from nin (N := 12) (by decide +kernel) hB), nI_clamp (n := B) (by omega), if_neg qm, if_neg (fun e => Bool.noConfusion (e.symm.trans (bI_0 c38)))]
        exact pm_k qM qA qF (Nat.le_refl _)
      · refine sw_aload_n (pc' := 42) rfl dX5_skip_41 rfl ?_
        refine sw_V (M' := MX5_no) (d' := d - 1) (bc' := 0) (bs' := 0) (ci := 6) (as := []) dX5_skip_42 w_1184 ok_X5_no (q_no p25M p25A) p25M.ob rfl (by omega) (Nat.le_of_ble_eq_true rfl) (Nat.zero_le _) (Nat.zero_le _) (fun E h' n' _ z => rp_x z) (rp_k (fun p42 p42ρ p42τ p42M p42A p42F => ?_))
        obtain ⟨Gp42, hGp42, eGp42⟩ := p42M.out
        refine sw_ret (v := some _) ⟨dX5_skip_45, _, rfl, rfl⟩ ?_
        rw [opSkip, onWk_k hk, if_neg (show ¬ (nI B < 0 ∨ 12 < nI B) from nin (N := 12) (by decide +kernel) hB), nI_clamp (n := B) (by omega), if_neg qm, if_pos (bI_1 c38)]
        exact pm_k p42M p42A (p25F.tr p42F (Nat.le_refl _)) (Nat.le_refl _)
    · exact absurd c28 (by decide +kernel)
  · exact absurd c12 (by decide +kernel)
end
