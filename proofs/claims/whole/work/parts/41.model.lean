/-! the model's calls -/
def sI : String := "java/lang/IndexOutOfBoundsException"
def sA : String := "java/lang/IllegalArgumentException"
def sS : String := "java/lang/IllegalStateException"
/-- what the law makes of a throw: its number among those that are caught -/
def tc (a b : String) (r : ARes) : Int32 := match r with
  | .inl _ => 0
  | .inr E => if E = a then 1 else if E = b then 2 else 3
theorem tc_1 {a b : String} : tc a b (.inr a) = 1 := if_pos rfl
theorem tc_2 {a b : String} (h : b ≠ a) : tc a b (.inr b) = 2 := (if_neg h).trans (if_pos rfl)
theorem tc_3 {a b c : String} (h : c ≠ a) (h2 : c ≠ b) : tc a b (.inr c) = 3 := (if_neg h).trans (if_neg h2)
theorem sAI : sA ≠ sI := by decide +kernel
theorem sSI : sS ≠ sI := by decide +kernel
theorem sSA : sS ≠ sA := by decide +kernel
/-- what the model answers -/
def anR (r : ARes) : Option Value := match r with
  | .inl v => v
  | .inr _ => some (.int 0)
def PM (h : AH) (n : Nat) (t : ARes → Int32) (q : ARes × CS) : ARes → AH → Nat → Prop := fun r' h' n' => r' = .inl (anR q.1) ∧ n ≤ n' ∧ RMo h' q.2 (t q.1) ∧ FrM h h' n
theorem pm_x {h p : AH} {n n' : Nat} {t : ARes → Int32} {σ : CS} {E : String} {th : Int32} {ρ : Nat → Nat → Int32} {τ : Nat → Int32} (e : t (.inr E) = th) (pM : MM p ρ τ σ th) (pA : AG ρ τ σ) (pF : FrM h p n) (hn : n ≤ n') : PM h n t (.inr E, σ) (.inl (some (.int 0))) p n' := ⟨rfl, hn, ⟨ρ, τ, e ▸ pM, pA⟩, pF⟩
theorem pm_k {h p : AH} {n n' : Nat} {a b : String} {σ : CS} {v : Option Value} {ρ : Nat → Nat → Int32} {τ : Nat → Int32} (pM : MM p ρ τ σ 0) (pA : AG ρ τ σ) (pF : FrM h p n) (hn : n ≤ n') : PM h n (tc a b) (.inl v, σ) (.inl v) p n' := ⟨rfl, hn, ⟨ρ, τ, pM, pA⟩, pF⟩
/-- what holds of the class's numbers at each call -/
def Iv (σ : CS) : Prop := (∀ k, k < 11 → σ.2.1 k ≤ 12) ∧ σ.2.1 6 = σ.2.1 7 ∧ (∀ k, k < 11 → ∀ j, j < σ.2.1 k → 0 ≤ σ.1 k j ∧ σ.1 k j ≤ 100) ∧ srt (σ.1 3) (σ.2.1 3) ∧ srt (σ.1 6) (σ.2.1 6) ∧ eis (σ.1 4) (σ.2.1 4) ∧ (∀ k, k < 6 → wO σ k < 11) ∧ ∀ k, k < 6 → WI σ k
theorem inB_n {x a b : Int32} (q : ¬ (x < a ∨ b < x)) : inB x a b = true := inB_t (Int32.not_lt.mp (fun g => q (Or.inl g))) (Int32.not_lt.mp (fun g => q (Or.inr g)))
theorem inB_x {x a b : Int32} (q : x < a ∨ b < x) : inB x a b = false := q.elim inB_f1 inB_f2
theorem inB_99 {x : Int32} (q : ¬ (x < 0 ∨ 100 ≤ x)) : inB x 0 99 = true := by
  have h1 : ¬ x < 0 := fun g => q (Or.inl g)
  obtain ⟨j, hj, rfl⟩ := nI_of h1
  exact inB_k (N := 99) (Nat.le_of_not_lt (fun g => q (Or.inr ((nI_leI (a := 100) (by decide +kernel) hj).mpr (by omega))))) (by decide +kernel)
theorem inB_99x {x : Int32} (q : x < 0 ∨ 100 ≤ x) : inB x 0 99 = false := by
  rcases q with q | q
  · exact inB_f1 q
  · by_cases g : x < 0
    · exact inB_f1 g
    · obtain ⟨j, hj, rfl⟩ := nI_of g
      exact inB_f2 (nI_lt (a := 99) (by have := (nI_leI (a := 100) (by decide +kernel) hj).mp q; omega) hj)
theorem nrB_x {a : Int32} (q : a < 0 ∨ nI 11 ≤ a) : nrB a = true := by
  have g : inB a 0 10 = false := no_x (N := 10) (by decide +kernel) q
  rw [nrB, g]
  rfl
theorem nrB_y {k : Nat} (hk : k < 11) (q : kP (kdO k) = false) : nrB (nI k) = true := by rw [nr_k hk, q]; rfl
theorem nrB_k {k : Nat} (hk : k < 11) (q : ¬ kP (kdO k) = false) : nrB (nI k) = false := by
  rw [nr_k hk]
  cases e : kP (kdO k) with
  | false => exact absurd e q
  | true => rfl
theorem full {c : Nat} (hc : c ≤ 12) (q : 12 < nI c + 1) : c = 12 := by
  rw [nI_1] at q
  have := (nI_ltI (a := 12) (by decide +kernel) (by omega)).mp q
  omega
theorem full_n {c : Nat} (hc : c ≤ 12) (q : ¬ 12 < nI c + 1) : c < 12 := roomC hc q
theorem nI12 {c : Nat} (hc : c ≤ 12) : nI c = 12 ↔ c = 12 := nI_eq (b := 12) (by omega) (by decide +kernel)
theorem mkT {b : Bool} (q : ¬ b = false) : b = true := by
  cases b
  · exact absurd rfl q
  · rfl
theorem tk_n {k : Nat} {x : Int32} (h : ¬ x = 100) : tkB k x = true := by unfold tkB; rw [decide_eq_true (show x ≠ 100 from h)]; rfl
theorem tk_t {k : Nat} {x : Int32} (h : kN (kdO k) = true) : tkB k x = true := by unfold tkB; rw [h, Bool.or_true]
theorem nI_m1 {c : Nat} (h : 0 < c) : nI c - 1 = nI (c - 1) := by
  obtain ⟨e, rfl⟩ : ∃ e, c = e + 1 := ⟨c - 1, by omega⟩
  exact nI_pred e
theorem taI_0 {f : Nat → Int32} {c : Nat} (h : 0 < c) (hc : c ≤ 12) : taI f c 0 = f 0 := taI_in (j := 0) h hc
theorem np_r {σ : CS} {a p : Int32} (h : nrB a = true) : npB σ a p = true := by unfold npB; rw [h]; rfl
theorem np_b {σ : CS} {k : Nat} {p : Int32} (hk : k < 11) (hc : σ.2.1 k ≤ 12) (q : p < 0 ∨ nI (σ.2.1 k) ≤ p) : npB σ (nI k) p = true := by
  unfold npB
  rw [nI_clamp (by omega)]
  have e : inB p 0 (nI (σ.2.1 k) - 1) = false := by
    by_cases c0 : σ.2.1 k = 0
    · rw [c0]
      by_cases g : p < 0
      · exact inB_f1 g
      · exact inB_f2 (Int32.lt_of_lt_of_le (b := 0) (by decide +kernel) (Int32.not_lt.mp g))
    · rw [nI_m1 (by omega)]
      exact no_x (N := σ.2.1 k - 1) (by omega) (by rw [show σ.2.1 k - 1 + 1 = σ.2.1 k by omega]; exact q)
  rw [e, Bool.not_false, Bool.or_true]
theorem np_k {σ : CS} {k P : Nat} (hk : k < 11) (h : nrB (nI k) = false) (hc : σ.2.1 k ≤ 12) (hP : P < σ.2.1 k) : npB σ (nI k) (nI P) = false := by
  unfold npB
  rw [h, nI_clamp (by omega), nI_m1 (by omega), inB_k (by omega) (by omega)]
  rfl
/-- things alone are otherwise, and it is TURNED or not -/
theorem MM.rwU {h h' : AH} {ρ : Nat → Nat → Int32} {τ : Nat → Int32} {σ : CS} {th : Int32} {k : Nat} (hM : MM h ρ τ σ th) (hk : k < 11) {r f : Nat → Int32} (e0 : h' (137 + k) = .inl (0, 12, .inl r)) (hF : ∀ i, i ≠ 137 + k → h' i = h i) : MM h' (up ρ k r) τ (sU σ k f (σ.2.1 k) (σ.2.2.1 k) (σ.2.2.2.1 k)) th :=
  hM.shU hk e0 (by rw [hF 148 (by omega), hM.sz, up_ap, up_id]) (by rw [hF 149 (by omega), hM.sf, up_id]) (by rw [hF 156 (by omega), hM.tu, up_id]) (fun i h1 _ _ _ => hF i h1)
theorem MM.rwT {h h' : AH} {ρ : Nat → Nat → Int32} {τ : Nat → Int32} {σ : CS} {th : Int32} {k : Nat} (hM : MM h ρ τ σ th) (hk : k < 11) {r f : Nat → Int32} {t : Int32} (e0 : h' (137 + k) = .inl (0, 12, .inl r)) (e3 : h' 156 = .inl (0, 11, .inl (up σ.2.2.2.1 k t))) (hF : ∀ i, i ≠ 137 + k → i ≠ 156 → h' i = h i) : MM h' (up ρ k r) τ (sU σ k f (σ.2.1 k) (σ.2.2.1 k) t) th :=
  hM.shU hk e0 (by rw [hF 148 (by omega) (by decide +kernel), hM.sz, up_ap, up_id]) (by rw [hF 149 (by omega) (by decide +kernel), hM.sf, up_id]) e3 (fun i h1 _ _ h2 => hF i h1 h2)
theorem idxR (N : Nat) (hN : N < 2 ^ 31) (x : Int32) : (x < 0 ∨ nI N < x) ∨ ∃ k : Nat, k ≤ N ∧ x = nI k := by
  by_cases q : x < 0
  · exact Or.inl (Or.inl q)
  · obtain ⟨j, hj, rfl⟩ := nI_of q
    by_cases g : nI N < nI j
    · exact Or.inl (Or.inr g)
    · exact Or.inr ⟨j, (nI_leI hj hN).mp (Int32.not_lt.mp g), rfl⟩
theorem tk_f {k : Nat} {x : Int32} (h : x = 100) (g : kN (kdO k) = false) : tkB k x = false := by unfold tkB; rw [g, decide_eq_false (fun q => q h)]; rfl
theorem q_size {h : AH} {d bc bs n : Nat} {σ : CS} {th : Int32} {a : Int32} (hR : RMo h σ th) (hI : Iv σ) (hn : 159 ≤ n) (hd : 8 ≤ d) (h1 : 1 ≤ bc) (h2 : 12 ≤ bs)  : SM SR0 MX5_size d bc bs [.ref 135, .int a] h n (PM h n (tc sI sI) (opSize σ a)) := by
  obtain ⟨ρ, τ, hM, hA⟩ := hR
  obtain ⟨G0, hG0, eG0⟩ := hM.out
  refine sm_of pn_OverwalksModel rfl (Nat.le_of_ble_eq_true rfl) ?_
  rcases idxN 11 (by decide +kernel) a with qk1 | ⟨k, hk, rfl⟩
  · refine sw_aload_n (pc' := 1) rfl dX5_size_0 rfl ?_
    refine sw_iload_n (pc' := 2) rfl dX5_size_1 rfl ?_
    refine sw_S (M' := MX5_isNone) (d' := d - 1) (bc' := 0) (bs' := 0) (as := [_]) dX5_size_2 w_1165 ok_X5_isNone (q_isNone (by omega)) (by omega) (Nat.le_of_ble_eq_true rfl) (Nat.zero_le _) (Nat.zero_le _) (fun E h' n' _ z => det_x z) (det_k ?_)
    rw [show inB a 0 10 = false from no_x (N := 10) (by decide +kernel) qk1]
    show SW _ _ _ _ _ _ _ (.int 1 :: _) _ _ _
    refine sw_V (M' := MX5_isStopped__) (d' := d - 1) (bc' := 0) (bs' := 0) (ci := 6) (as := [_]) dX5_size_5 w_1235 ok_X5_isStopped__ (q_isStopped1 (a := true) hM hA (by omega)) hM.ob rfl (by omega) (Nat.le_of_ble_eq_true rfl) (Nat.zero_le _) (Nat.zero_le _) (fun E h' n' _ z => rp_x z) (rp_k (fun p5 p5ρ p5τ p5M p5A p5F => ?_))
    obtain ⟨Gp5, hGp5, eGp5⟩ := p5M.out
    show SW _ _ _ _ _ _ _ (.int 1 :: _) _ _ _
    refine sw_if_eq (pc' := 11) (tgt := 15) rfl dX5_size_8 (by decide +kernel) (fun c8 => ?_) (fun c8 => ?_)
    · exact absurd c8 (by decide +kernel)
    · refine sw_iconst (pc' := 12) (v := 0) rfl dX5_size_11 (by decide +kernel) ?_
      refine sw_goto (tgt := 21) dX5_size_12 (by decide +kernel) ?_
      refine sw_ret (v := some _) ⟨dX5_size_21, _, rfl, rfl⟩ ?_
      rw [opSize, onSh_x qk1]
      exact pm_x tc_1 p5M p5A p5F (Nat.le_refl _)
  have hck := hI.1 k hk
  refine sw_aload_n (pc' := 1) rfl dX5_size_0 rfl ?_
  refine sw_iload_n (pc' := 2) rfl dX5_size_1 rfl ?_
  refine sw_S (M' := MX5_isNone) (d' := d - 1) (bc' := 0) (bs' := 0) (as := [_]) dX5_size_2 w_1165 ok_X5_isNone (q_isNone (by omega)) (by omega) (Nat.le_of_ble_eq_true rfl) (Nat.zero_le _) (Nat.zero_le _) (fun E h' n' _ z => det_x z) (det_k ?_)
  rw [show inB (nI k) 0 10 = true from inB_k (N := 10) (by omega) (by decide +kernel)]
  show SW _ _ _ _ _ _ _ (.int 0 :: _) _ _ _
  refine sw_V (M' := MX5_isStopped__) (d' := d - 1) (bc' := 0) (bs' := 0) (ci := 6) (as := [_]) dX5_size_5 w_1235 ok_X5_isStopped__ (q_isStopped1 (a := false) hM hA (by omega)) hM.ob rfl (by omega) (Nat.le_of_ble_eq_true rfl) (Nat.zero_le _) (Nat.zero_le _) (fun E h' n' _ z => rp_x z) (rp_k (fun p5 p5ρ p5τ p5M p5A p5F => ?_))
  obtain ⟨Gp5, hGp5, eGp5⟩ := p5M.out
  show SW _ _ _ _ _ _ _ (.int 0 :: _) _ _ _
  refine sw_if_eq (pc' := 11) (tgt := 15) rfl dX5_size_8 (by decide +kernel) (fun c8 => ?_) (fun c8 => ?_)
  · refine sw_aload_n (pc' := 16) rfl dX5_size_15 rfl ?_
    refine sw_getf (ci := 6) (k := 4) (pc' := 19) rfl dX5_size_16 (by decide +kernel) w_1117 p5M.ob rfl ?_
    refine sw_iload_n (pc' := 20) rfl dX5_size_19 rfl ?_
    refine sw_iald (j := k) (pc' := 21) rfl dX5_size_20 p5M.sz rfl (by omega) (by decide +kernel) ?_
    refine sw_ret (v := some _) ⟨dX5_size_21, _, rfl, rfl⟩ ?_
    rw [opSize, onSh_k hk]
    exact pm_k p5M p5A p5F (Nat.le_refl _)
  · exact absurd c8 (by decide +kernel)
theorem q_isEmpty {h : AH} {d bc bs n : Nat} {σ : CS} {th : Int32} {a : Int32} (hR : RMo h σ th) (hI : Iv σ) (hn : 159 ≤ n) (hd : 8 ≤ d) (h1 : 1 ≤ bc) (h2 : 12 ≤ bs)  : SM SR0 MX5_isEmpty d bc bs [.ref 135, .int a] h n (PM h n (tc sI sI) (opIsEmpty σ a)) := by
  obtain ⟨ρ, τ, hM, hA⟩ := hR
  obtain ⟨G0, hG0, eG0⟩ := hM.out
  refine sm_of pn_OverwalksModel rfl (Nat.le_of_ble_eq_true rfl) ?_
  rcases idxN 11 (by decide +kernel) a with qk1 | ⟨k, hk, rfl⟩
  · refine sw_aload_n (pc' := 1) rfl dX5_isEmpty_0 rfl ?_
    refine sw_iload_n (pc' := 2) rfl dX5_isEmpty_1 rfl ?_
    refine sw_S (M' := MX5_isNone) (d' := d - 1) (bc' := 0) (bs' := 0) (as := [_]) dX5_isEmpty_2 w_1165 ok_X5_isNone (q_isNone (by omega)) (by omega) (Nat.le_of_ble_eq_true rfl) (Nat.zero_le _) (Nat.zero_le _) (fun E h' n' _ z => det_x z) (det_k ?_)
    rw [show inB a 0 10 = false from no_x (N := 10) (by decide +kernel) qk1]
    show SW _ _ _ _ _ _ _ (.int 1 :: _) _ _ _
    refine sw_V (M' := MX5_isStopped__) (d' := d - 1) (bc' := 0) (bs' := 0) (ci := 6) (as := [_]) dX5_isEmpty_5 w_1235 ok_X5_isStopped__ (q_isStopped1 (a := true) hM hA (by omega)) hM.ob rfl (by omega) (Nat.le_of_ble_eq_true rfl) (Nat.zero_le _) (Nat.zero_le _) (fun E h' n' _ z => rp_x z) (rp_k (fun p5 p5ρ p5τ p5M p5A p5F => ?_))
    obtain ⟨Gp5, hGp5, eGp5⟩ := p5M.out
    show SW _ _ _ _ _ _ _ (.int 1 :: _) _ _ _
    refine sw_if_ne (pc' := 11) (tgt := 24) rfl dX5_isEmpty_8 (by decide +kernel) (fun c8 => ?_) (fun c8 => ?_)
    · refine sw_iconst (pc' := 25) (v := 0) rfl dX5_isEmpty_24 (by decide +kernel) ?_
      refine sw_ret (v := some _) ⟨dX5_isEmpty_25, _, rfl, rfl⟩ ?_
      rw [opIsEmpty, onSh_x qk1]
      exact pm_x tc_1 p5M p5A p5F (Nat.le_refl _)
    · exact absurd c8 (by decide +kernel)
  have hck := hI.1 k hk
  refine sw_aload_n (pc' := 1) rfl dX5_isEmpty_0 rfl ?_
  refine sw_iload_n (pc' := 2) rfl dX5_isEmpty_1 rfl ?_
  refine sw_S (M' := MX5_isNone) (d' := d - 1) (bc' := 0) (bs' := 0) (as := [_]) dX5_isEmpty_2 w_1165 ok_X5_isNone (q_isNone (by omega)) (by omega) (Nat.le_of_ble_eq_true rfl) (Nat.zero_le _) (Nat.zero_le _) (fun E h' n' _ z => det_x z) (det_k ?_)
  rw [show inB (nI k) 0 10 = true from inB_k (N := 10) (by omega) (by decide +kernel)]
  show SW _ _ _ _ _ _ _ (.int 0 :: _) _ _ _
  refine sw_V (M' := MX5_isStopped__) (d' := d - 1) (bc' := 0) (bs' := 0) (ci := 6) (as := [_]) dX5_isEmpty_5 w_1235 ok_X5_isStopped__ (q_isStopped1 (a := false) hM hA (by omega)) hM.ob rfl (by omega) (Nat.le_of_ble_eq_true rfl) (Nat.zero_le _) (Nat.zero_le _) (fun E h' n' _ z => rp_x z) (rp_k (fun p5 p5ρ p5τ p5M p5A p5F => ?_))
  obtain ⟨Gp5, hGp5, eGp5⟩ := p5M.out
  show SW _ _ _ _ _ _ _ (.int 0 :: _) _ _ _
  refine sw_if_ne (pc' := 11) (tgt := 24) rfl dX5_isEmpty_8 (by decide +kernel) (fun c8 => ?_) (fun c8 => ?_)
  · exact absurd c8 (by decide +kernel)
  · refine sw_aload_n (pc' := 12) rfl dX5_isEmpty_11 rfl ?_
    refine sw_getf (ci := 6) (k := 4) (pc' := 15) rfl dX5_isEmpty_12 (by decide +kernel) w_1117 p5M.ob rfl ?_
    refine sw_iload_n (pc' := 16) rfl dX5_isEmpty_15 rfl ?_
    refine sw_iald (j := k) (pc' := 17) rfl dX5_isEmpty_16 p5M.sz rfl (by omega) (by decide +kernel) ?_
    refine sw_if_ne (pc' := 20) (tgt := 24) rfl dX5_isEmpty_17 (by decide +kernel) (fun c17 => ?_) (fun c17 => ?_)
    · refine sw_iconst (pc' := 25) (v := 0) rfl dX5_isEmpty_24 (by decide +kernel) ?_
      refine sw_ret (v := some _) ⟨dX5_isEmpty_25, _, rfl, rfl⟩ ?_
      rw [opIsEmpty, onSh_k hk, decide_eq_false (fun e => c17 (by rw [e]; rfl))]
      exact pm_k p5M p5A p5F (Nat.le_refl _)
    · refine sw_iconst (pc' := 21) (v := 1) rfl dX5_isEmpty_20 (by decide +kernel) ?_
      refine sw_goto (tgt := 25) dX5_isEmpty_21 (by decide +kernel) ?_
      refine sw_ret (v := some _) ⟨dX5_isEmpty_25, _, rfl, rfl⟩ ?_
      rw [opIsEmpty, onSh_k hk, decide_eq_true ((nI_eq (b := 0) (by have := hI.1 k hk; omega) (by decide +kernel)).mp c17)]
      exact pm_k p5M p5A p5F (Nat.le_refl _)
theorem q_has {h : AH} {d bc bs n : Nat} {σ : CS} {th : Int32} {a x : Int32} (hR : RMo h σ th) (hI : Iv σ) (hn : 159 ≤ n) (hd : 8 ≤ d) (h1 : 1 ≤ bc) (h2 : 12 ≤ bs)  : SM SR0 MX5_has d bc bs [.ref 135, .int a, .int x] h n (PM h n (tc sI sA) (opHas σ a x)) := by
  obtain ⟨ρ, τ, hM, hA⟩ := hR
  obtain ⟨G0, hG0, eG0⟩ := hM.out
  refine sm_of pn_OverwalksModel rfl (Nat.le_of_ble_eq_true rfl) ?_
  rcases idxN 11 (by decide +kernel) a with qk1 | ⟨k, hk, rfl⟩
  · refine sw_aload_n (pc' := 1) rfl dX5_has_0 rfl ?_
    refine sw_iload_n (pc' := 2) rfl dX5_has_1 rfl ?_
    refine sw_S (M' := MX5_isNone) (d' := d - 1) (bc' := 0) (bs' := 0) (as := [_]) dX5_has_2 w_1165 ok_X5_isNone (q_isNone (by omega)) (by omega) (Nat.le_of_ble_eq_true rfl) (Nat.zero_le _) (Nat.zero_le _) (fun E h' n' _ z => det_x z) (det_k ?_)
    rw [show inB a 0 10 = false from no_x (N := 10) (by decide +kernel) qk1]
    show SW _ _ _ _ _ _ _ (.int 1 :: _) _ _ _
    refine sw_iload_n (pc' := 6) rfl dX5_has_5 rfl ?_
    refine sw_S (M' := MX5_isNoThing) (d' := d - 1) (bc' := 0) (bs' := 0) (as := [_]) dX5_has_6 w_1171 ok_X5_isNoThing (q_isNoThing (by omega)) (by omega) (Nat.le_of_ble_eq_true rfl) (Nat.zero_le _) (Nat.zero_le _) (fun E h' n' _ z => det_x z) (det_k ?_)
    refine sw_V (M' := MX5_isStopped_) (d' := d - 1) (bc' := 0) (bs' := 0) (ci := 6) (as := [_, _]) dX5_has_9 w_1215 ok_X5_isStopped_ (q_isStopped2 (a := true) (b := (!inB x 0 100)) hM hA (by omega)) hM.ob rfl (by omega) (Nat.le_of_ble_eq_true rfl) (Nat.zero_le _) (Nat.zero_le _) (fun E h' n' _ z => rp_x z) (rp_k (fun p9 p9ρ p9τ p9M p9A p9F => ?_))
    obtain ⟨Gp9, hGp9, eGp9⟩ := p9M.out
    show SW _ _ _ _ _ _ _ (.int 1 :: _) _ _ _
    refine sw_if_eq (pc' := 15) (tgt := 17) rfl dX5_has_12 (by decide +kernel) (fun c12 => ?_) (fun c12 => ?_)
    · exact absurd c12 (by decide +kernel)
    · refine sw_iconst (pc' := 16) (v := 0) rfl dX5_has_15 (by decide +kernel) ?_
      refine sw_ret (v := some _) ⟨dX5_has_16, _, rfl, rfl⟩ ?_
      rw [opHas, onSh_x qk1]
      exact pm_x tc_1 p9M p9A p9F (Nat.le_refl _)
  have hck := hI.1 k hk
  rcases Classical.em (x < 0 ∨ 100 < x) with qx | qx
  · refine sw_aload_n (pc' := 1) rfl dX5_has_0 rfl ?_
    refine sw_iload_n (pc' := 2) rfl dX5_has_1 rfl ?_
    refine sw_S (M' := MX5_isNone) (d' := d - 1) (bc' := 0) (bs' := 0) (as := [_]) dX5_has_2 w_1165 ok_X5_isNone (q_isNone (by omega)) (by omega) (Nat.le_of_ble_eq_true rfl) (Nat.zero_le _) (Nat.zero_le _) (fun E h' n' _ z => det_x z) (det_k ?_)
    rw [show inB (nI k) 0 10 = true from inB_k (N := 10) (by omega) (by decide +kernel)]
    show SW _ _ _ _ _ _ _ (.int 0 :: _) _ _ _
    refine sw_iload_n (pc' := 6) rfl dX5_has_5 rfl ?_
    refine sw_S (M' := MX5_isNoThing) (d' := d - 1) (bc' := 0) (bs' := 0) (as := [_]) dX5_has_6 w_1171 ok_X5_isNoThing (q_isNoThing (by omega)) (by omega) (Nat.le_of_ble_eq_true rfl) (Nat.zero_le _) (Nat.zero_le _) (fun E h' n' _ z => det_x z) (det_k ?_)
    rw [show inB x 0 100 = false from inB_x qx]
    show SW _ _ _ _ _ _ _ (.int 1 :: _) _ _ _
    refine sw_V (M' := MX5_isStopped_) (d' := d - 1) (bc' := 0) (bs' := 0) (ci := 6) (as := [_, _]) dX5_has_9 w_1215 ok_X5_isStopped_ (q_isStopped2 (a := false) (b := true) hM hA (by omega)) hM.ob rfl (by omega) (Nat.le_of_ble_eq_true rfl) (Nat.zero_le _) (Nat.zero_le _) (fun E h' n' _ z => rp_x z) (rp_k (fun p9 p9ρ p9τ p9M p9A p9F => ?_))
    obtain ⟨Gp9, hGp9, eGp9⟩ := p9M.out
    show SW _ _ _ _ _ _ _ (.int 1 :: _) _ _ _
    refine sw_if_eq (pc' := 15) (tgt := 17) rfl dX5_has_12 (by decide +kernel) (fun c12 => ?_) (fun c12 => ?_)
    · exact absurd c12 (by decide +kernel)
    · refine sw_iconst (pc' := 16) (v := 0) rfl dX5_has_15 (by decide +kernel) ?_
      refine sw_ret (v := some _) ⟨dX5_has_16, _, rfl, rfl⟩ ?_
      rw [opHas, onSh_k hk, if_pos qx]
      exact pm_x (tc_2 sAI) p9M p9A p9F (Nat.le_refl _)
  refine sw_aload_n (pc' := 1) rfl dX5_has_0 rfl ?_
  refine sw_iload_n (pc' := 2) rfl dX5_has_1 rfl ?_
  refine sw_S (M' := MX5_isNone) (d' := d - 1) (bc' := 0) (bs' := 0) (as := [_]) dX5_has_2 w_1165 ok_X5_isNone (q_isNone (by omega)) (by omega) (Nat.le_of_ble_eq_true rfl) (Nat.zero_le _) (Nat.zero_le _) (fun E h' n' _ z => det_x z) (det_k ?_)
  rw [show inB (nI k) 0 10 = true from inB_k (N := 10) (by omega) (by decide +kernel)]
  show SW _ _ _ _ _ _ _ (.int 0 :: _) _ _ _
  refine sw_iload_n (pc' := 6) rfl dX5_has_5 rfl ?_
  refine sw_S (M' := MX5_isNoThing) (d' := d - 1) (bc' := 0) (bs' := 0) (as := [_]) dX5_has_6 w_1171 ok_X5_isNoThing (q_isNoThing (by omega)) (by omega) (Nat.le_of_ble_eq_true rfl) (Nat.zero_le _) (Nat.zero_le _) (fun E h' n' _ z => det_x z) (det_k ?_)
  rw [show inB x 0 100 = true from inB_n qx]
  show SW _ _ _ _ _ _ _ (.int 0 :: _) _ _ _
  refine sw_V (M' := MX5_isStopped_) (d' := d - 1) (bc' := 0) (bs' := 0) (ci := 6) (as := [_, _]) dX5_has_9 w_1215 ok_X5_isStopped_ (q_isStopped2 (a := false) (b := false) hM hA (by omega)) hM.ob rfl (by omega) (Nat.le_of_ble_eq_true rfl) (Nat.zero_le _) (Nat.zero_le _) (fun E h' n' _ z => rp_x z) (rp_k (fun p9 p9ρ p9τ p9M p9A p9F => ?_))
  obtain ⟨Gp9, hGp9, eGp9⟩ := p9M.out
  show SW _ _ _ _ _ _ _ (.int 0 :: _) _ _ _
  refine sw_if_eq (pc' := 15) (tgt := 17) rfl dX5_has_12 (by decide +kernel) (fun c12 => ?_) (fun c12 => ?_)
  · refine sw_iload_n (pc' := 18) rfl dX5_has_17 rfl ?_
    refine sw_bipush (pc' := 20) (v := 100) rfl dX5_has_18 (by decide +kernel) ?_
    refine sw_icmp_ne (pc' := 23) (tgt := 37) rfl dX5_has_20 (by decide +kernel) (fun c20 => ?_) (fun c20 => ?_)
    · refine sw_aload_n (pc' := 38) rfl dX5_has_37 rfl ?_
      refine sw_iload_n (pc' := 39) rfl dX5_has_38 rfl ?_
      refine sw_iload_n (pc' := 40) rfl dX5_has_39 rfl ?_
      refine sw_V (M' := MX5_count) (d' := d - 1) (bc' := 0) (bs' := 0) (ci := 6) (as := [_, _]) dX5_has_40 w_1192 ok_X5_count (q_count p9M p9A (k := k) (by omega) (hI.1 k (by omega)) (by omega)) p9M.ob rfl (by omega) (Nat.le_of_ble_eq_true rfl) (Nat.zero_le _) (Nat.zero_le _) (fun E h' n' _ z => det_x z) (det_k ?_)
      have hl40 := coN_le (f := σ.1 k) (x := x) (m := σ.2.1 k) (j := 0)
      refine sw_if_le (pc' := 46) (tgt := 50) rfl dX5_has_43 (by decide +kernel) (fun c43 => ?_) (fun c43 => ?_)
      · refine sw_iconst (pc' := 51) (v := 0) rfl dX5_has_50 (by decide +kernel) ?_
        refine sw_S (M' := MX5_one) (d' := d - 1) (bc' := 0) (bs' := 0) (as := [_]) dX5_has_51 w_1196 ok_X5_one (q_one (q := false)) (by omega) (Nat.le_of_ble_eq_true rfl) (Nat.zero_le _) (Nat.zero_le _) (fun E h' n' _ z => det_x z) (det_k ?_)
        show SW _ _ _ _ _ _ _ (.int 0 :: _) _ _ _
        refine sw_ret (v := some _) ⟨dX5_has_54, _, rfl, rfl⟩ ?_
        rw [opHas, onSh_k hk, if_neg qx, if_neg (fun e => Bool.noConfusion (e.symm.trans (tk_n c20))), fp_of_co (fun g => absurd ((nI_gt0 (by have := hI.1 k hk; omega)).mpr g) (Int32.not_lt.mpr c43))]
        exact pm_k p9M p9A p9F (Nat.le_refl _)
      · refine sw_iconst (pc' := 47) (v := 1) rfl dX5_has_46 (by decide +kernel) ?_
        refine sw_goto (tgt := 51) dX5_has_47 (by decide +kernel) ?_
        refine sw_S (M' := MX5_one) (d' := d - 1) (bc' := 0) (bs' := 0) (as := [_]) dX5_has_51 w_1196 ok_X5_one (q_one (q := true)) (by omega) (Nat.le_of_ble_eq_true rfl) (Nat.zero_le _) (Nat.zero_le _) (fun E h' n' _ z => det_x z) (det_k ?_)
        show SW _ _ _ _ _ _ _ (.int 1 :: _) _ _ _
        refine sw_ret (v := some _) ⟨dX5_has_54, _, rfl, rfl⟩ ?_
        rw [opHas, onSh_k hk, if_neg qx, if_neg (fun e => Bool.noConfusion (e.symm.trans (tk_n c20))), fp_of_co1 ((nI_gt0 (by have := hI.1 k hk; omega)).mp (Int32.not_le.mp c43))]
        exact pm_k p9M p9A p9F (Nat.le_refl _)
    · refine sw_iload_n (pc' := 24) rfl dX5_has_23 rfl ?_
      refine sw_S (M' := MX5_takesNothing) (d' := d - 1) (bc' := 0) (bs' := 0) (as := [_]) dX5_has_24 w_1181 ok_X5_takesNothing (q_takesNothing (by omega)) (by omega) (Nat.le_of_ble_eq_true rfl) (Nat.zero_le _) (Nat.zero_le _) (fun E h' n' _ z => det_x z) (det_k ?_)
      rw [tn_k (k := k) (by omega)]
      refine sw_if_ne (pc' := 30) (tgt := 37) rfl dX5_has_27 (by decide +kernel) (fun c27 => ?_) (fun c27 => ?_)
      · refine sw_aload_n (pc' := 38) rfl dX5_has_37 rfl ?_
        refine sw_iload_n (pc' := 39) rfl dX5_has_38 rfl ?_
        refine sw_iload_n (pc' := 40) rfl dX5_has_39 rfl ?_
        refine sw_V (M' := MX5_count) (d' := d - 1) (bc' := 0) (bs' := 0) (ci := 6) (as := [_, _]) dX5_has_40 w_1192 ok_X5_count (q_count p9M p9A (k := k) (by omega) (hI.1 k (by omega)) (by omega)) p9M.ob rfl (by omega) (Nat.le_of_ble_eq_true rfl) (Nat.zero_le _) (Nat.zero_le _) (fun E h' n' _ z => det_x z) (det_k ?_)
        have hl40 := coN_le (f := σ.1 k) (x := x) (m := σ.2.1 k) (j := 0)
        refine sw_if_le (pc' := 46) (tgt := 50) rfl dX5_has_43 (by decide +kernel) (fun c43 => ?_) (fun c43 => ?_)
        · refine sw_iconst (pc' := 51) (v := 0) rfl dX5_has_50 (by decide +kernel) ?_
          refine sw_S (M' := MX5_one) (d' := d - 1) (bc' := 0) (bs' := 0) (as := [_]) dX5_has_51 w_1196 ok_X5_one (q_one (q := false)) (by omega) (Nat.le_of_ble_eq_true rfl) (Nat.zero_le _) (Nat.zero_le _) (fun E h' n' _ z => det_x z) (det_k ?_)
          show SW _ _ _ _ _ _ _ (.int 0 :: _) _ _ _
          refine sw_ret (v := some _) ⟨dX5_has_54, _, rfl, rfl⟩ ?_
          rw [opHas, onSh_k hk, if_neg qx, if_neg (fun e => Bool.noConfusion (e.symm.trans (tk_t (bI_1 c27)))), fp_of_co (fun g => absurd ((nI_gt0 (by have := hI.1 k hk; omega)).mpr g) (Int32.not_lt.mpr c43))]
          exact pm_k p9M p9A p9F (Nat.le_refl _)
        · refine sw_iconst (pc' := 47) (v := 1) rfl dX5_has_46 (by decide +kernel) ?_
          refine sw_goto (tgt := 51) dX5_has_47 (by decide +kernel) ?_
          refine sw_S (M' := MX5_one) (d' := d - 1) (bc' := 0) (bs' := 0) (as := [_]) dX5_has_51 w_1196 ok_X5_one (q_one (q := true)) (by omega) (Nat.le_of_ble_eq_true rfl) (Nat.zero_le _) (Nat.zero_le _) (fun E h' n' _ z => det_x z) (det_k ?_)
          show SW _ _ _ _ _ _ _ (.int 1 :: _) _ _ _
          refine sw_ret (v := some _) ⟨dX5_has_54, _, rfl, rfl⟩ ?_
          rw [opHas, onSh_k hk, if_neg qx, if_neg (fun e => Bool.noConfusion (e.symm.trans (tk_t (bI_1 c27)))), fp_of_co1 ((nI_gt0 (by have := hI.1 k hk; omega)).mp (Int32.not_le.mp c43))]
          exact pm_k p9M p9A p9F (Nat.le_refl _)
      · refine sw_aload_n (pc' := 31) rfl dX5_has_30 rfl ?_
        refine sw_V (M' := MX5_no) (d' := d - 1) (bc' := 0) (bs' := 0) (ci := 6) (as := []) dX5_has_31 w_1184 ok_X5_no (q_no p9M p9A) p9M.ob rfl (by omega) (Nat.le_of_ble_eq_true rfl) (Nat.zero_le _) (Nat.zero_le _) (fun E h' n' _ z => rp_x z) (rp_k (fun p31 p31ρ p31τ p31M p31A p31F => ?_))
        obtain ⟨Gp31, hGp31, eGp31⟩ := p31M.out
        refine sw_goto (tgt := 54) dX5_has_34 (by decide +kernel) ?_
        refine sw_ret (v := some _) ⟨dX5_has_54, _, rfl, rfl⟩ ?_
        rw [opHas, onSh_k hk, if_neg qx, if_pos (tk_f c20 (bI_0 c27))]
        exact pm_k p31M p31A (p9F.tr p31F (Nat.le_refl _)) (Nat.le_refl _)
  · exact absurd c12 (by decide +kernel)
theorem q_often {h : AH} {d bc bs n : Nat} {σ : CS} {th : Int32} {a x : Int32} (hR : RMo h σ th) (hI : Iv σ) (hn : 159 ≤ n) (hd : 8 ≤ d) (h1 : 1 ≤ bc) (h2 : 12 ≤ bs)  : SM SR0 MX5_often d bc bs [.ref 135, .int a, .int x] h n (PM h n (tc sI sA) (opOften σ a x)) := by
  obtain ⟨ρ, τ, hM, hA⟩ := hR
  obtain ⟨G0, hG0, eG0⟩ := hM.out
  refine sm_of pn_OverwalksModel rfl (Nat.le_of_ble_eq_true rfl) ?_
  rcases idxN 11 (by decide +kernel) a with qk1 | ⟨k, hk, rfl⟩
  · refine sw_aload_n (pc' := 1) rfl dX5_often_0 rfl ?_
    refine sw_iload_n (pc' := 2) rfl dX5_often_1 rfl ?_
    refine sw_S (M' := MX5_isNone) (d' := d - 1) (bc' := 0) (bs' := 0) (as := [_]) dX5_often_2 w_1165 ok_X5_isNone (q_isNone (by omega)) (by omega) (Nat.le_of_ble_eq_true rfl) (Nat.zero_le _) (Nat.zero_le _) (fun E h' n' _ z => det_x z) (det_k ?_)
    rw [show inB a 0 10 = false from no_x (N := 10) (by decide +kernel) qk1]
    show SW _ _ _ _ _ _ _ (.int 1 :: _) _ _ _
    refine sw_iload_n (pc' := 6) rfl dX5_often_5 rfl ?_
    refine sw_S (M' := MX5_isNoThing) (d' := d - 1) (bc' := 0) (bs' := 0) (as := [_]) dX5_often_6 w_1171 ok_X5_isNoThing (q_isNoThing (by omega)) (by omega) (Nat.le_of_ble_eq_true rfl) (Nat.zero_le _) (Nat.zero_le _) (fun E h' n' _ z => det_x z) (det_k ?_)
    refine sw_V (M' := MX5_isStopped_) (d' := d - 1) (bc' := 0) (bs' := 0) (ci := 6) (as := [_, _]) dX5_often_9 w_1215 ok_X5_isStopped_ (q_isStopped2 (a := true) (b := (!inB x 0 100)) hM hA (by omega)) hM.ob rfl (by omega) (Nat.le_of_ble_eq_true rfl) (Nat.zero_le _) (Nat.zero_le _) (fun E h' n' _ z => rp_x z) (rp_k (fun p9 p9ρ p9τ p9M p9A p9F => ?_))
    obtain ⟨Gp9, hGp9, eGp9⟩ := p9M.out
    show SW _ _ _ _ _ _ _ (.int 1 :: _) _ _ _
    refine sw_if_eq (pc' := 15) (tgt := 19) rfl dX5_often_12 (by decide +kernel) (fun c12 => ?_) (fun c12 => ?_)
    · exact absurd c12 (by decide +kernel)
    · refine sw_iconst (pc' := 16) (v := 0) rfl dX5_often_15 (by decide +kernel) ?_
      refine sw_goto (tgt := 25) dX5_often_16 (by decide +kernel) ?_
      refine sw_ret (v := some _) ⟨dX5_often_25, _, rfl, rfl⟩ ?_
      rw [opOften, onSh_x qk1]
      exact pm_x tc_1 p9M p9A p9F (Nat.le_refl _)
  have hck := hI.1 k hk
  rcases Classical.em (x < 0 ∨ 100 < x) with qx | qx
  · refine sw_aload_n (pc' := 1) rfl dX5_often_0 rfl ?_
    refine sw_iload_n (pc' := 2) rfl dX5_often_1 rfl ?_
    refine sw_S (M' := MX5_isNone) (d' := d - 1) (bc' := 0) (bs' := 0) (as := [_]) dX5_often_2 w_1165 ok_X5_isNone (q_isNone (by omega)) (by omega) (Nat.le_of_ble_eq_true rfl) (Nat.zero_le _) (Nat.zero_le _) (fun E h' n' _ z => det_x z) (det_k ?_)
    rw [show inB (nI k) 0 10 = true from inB_k (N := 10) (by omega) (by decide +kernel)]
    show SW _ _ _ _ _ _ _ (.int 0 :: _) _ _ _
    refine sw_iload_n (pc' := 6) rfl dX5_often_5 rfl ?_
    refine sw_S (M' := MX5_isNoThing) (d' := d - 1) (bc' := 0) (bs' := 0) (as := [_]) dX5_often_6 w_1171 ok_X5_isNoThing (q_isNoThing (by omega)) (by omega) (Nat.le_of_ble_eq_true rfl) (Nat.zero_le _) (Nat.zero_le _) (fun E h' n' _ z => det_x z) (det_k ?_)
    rw [show inB x 0 100 = false from inB_x qx]
    show SW _ _ _ _ _ _ _ (.int 1 :: _) _ _ _
    refine sw_V (M' := MX5_isStopped_) (d' := d - 1) (bc' := 0) (bs' := 0) (ci := 6) (as := [_, _]) dX5_often_9 w_1215 ok_X5_isStopped_ (q_isStopped2 (a := false) (b := true) hM hA (by omega)) hM.ob rfl (by omega) (Nat.le_of_ble_eq_true rfl) (Nat.zero_le _) (Nat.zero_le _) (fun E h' n' _ z => rp_x z) (rp_k (fun p9 p9ρ p9τ p9M p9A p9F => ?_))
    obtain ⟨Gp9, hGp9, eGp9⟩ := p9M.out
    show SW _ _ _ _ _ _ _ (.int 1 :: _) _ _ _
    refine sw_if_eq (pc' := 15) (tgt := 19) rfl dX5_often_12 (by decide +kernel) (fun c12 => ?_) (fun c12 => ?_)
    · exact absurd c12 (by decide +kernel)
    · refine sw_iconst (pc' := 16) (v := 0) rfl dX5_often_15 (by decide +kernel) ?_
      refine sw_goto (tgt := 25) dX5_often_16 (by decide +kernel) ?_
      refine sw_ret (v := some _) ⟨dX5_often_25, _, rfl, rfl⟩ ?_
      rw [opOften, onSh_k hk, if_pos qx]
      exact pm_x (tc_2 sAI) p9M p9A p9F (Nat.le_refl _)
  refine sw_aload_n (pc' := 1) rfl dX5_often_0 rfl ?_
  refine sw_iload_n (pc' := 2) rfl dX5_often_1 rfl ?_
  refine sw_S (M' := MX5_isNone) (d' := d - 1) (bc' := 0) (bs' := 0) (as := [_]) dX5_often_2 w_1165 ok_X5_isNone (q_isNone (by omega)) (by omega) (Nat.le_of_ble_eq_true rfl) (Nat.zero_le _) (Nat.zero_le _) (fun E h' n' _ z => det_x z) (det_k ?_)
  rw [show inB (nI k) 0 10 = true from inB_k (N := 10) (by omega) (by decide +kernel)]
  show SW _ _ _ _ _ _ _ (.int 0 :: _) _ _ _
  refine sw_iload_n (pc' := 6) rfl dX5_often_5 rfl ?_
  refine sw_S (M' := MX5_isNoThing) (d' := d - 1) (bc' := 0) (bs' := 0) (as := [_]) dX5_often_6 w_1171 ok_X5_isNoThing (q_isNoThing (by omega)) (by omega) (Nat.le_of_ble_eq_true rfl) (Nat.zero_le _) (Nat.zero_le _) (fun E h' n' _ z => det_x z) (det_k ?_)
  rw [show inB x 0 100 = true from inB_n qx]
  show SW _ _ _ _ _ _ _ (.int 0 :: _) _ _ _
  refine sw_V (M' := MX5_isStopped_) (d' := d - 1) (bc' := 0) (bs' := 0) (ci := 6) (as := [_, _]) dX5_often_9 w_1215 ok_X5_isStopped_ (q_isStopped2 (a := false) (b := false) hM hA (by omega)) hM.ob rfl (by omega) (Nat.le_of_ble_eq_true rfl) (Nat.zero_le _) (Nat.zero_le _) (fun E h' n' _ z => rp_x z) (rp_k (fun p9 p9ρ p9τ p9M p9A p9F => ?_))
  obtain ⟨Gp9, hGp9, eGp9⟩ := p9M.out
  show SW _ _ _ _ _ _ _ (.int 0 :: _) _ _ _
  refine sw_if_eq (pc' := 15) (tgt := 19) rfl dX5_often_12 (by decide +kernel) (fun c12 => ?_) (fun c12 => ?_)
  · refine sw_aload_n (pc' := 20) rfl dX5_often_19 rfl ?_
    refine sw_iload_n (pc' := 21) rfl dX5_often_20 rfl ?_
    refine sw_iload_n (pc' := 22) rfl dX5_often_21 rfl ?_
    refine sw_V (M' := MX5_count) (d' := d - 1) (bc' := 0) (bs' := 0) (ci := 6) (as := [_, _]) dX5_often_22 w_1192 ok_X5_count (q_count p9M p9A (k := k) (by omega) (hI.1 k (by omega)) (by omega)) p9M.ob rfl (by omega) (Nat.le_of_ble_eq_true rfl) (Nat.zero_le _) (Nat.zero_le _) (fun E h' n' _ z => det_x z) (det_k ?_)
    have hl22 := coN_le (f := σ.1 k) (x := x) (m := σ.2.1 k) (j := 0)
    refine sw_ret (v := some _) ⟨dX5_often_25, _, rfl, rfl⟩ ?_
    rw [opOften, onSh_k hk, if_neg qx]
    exact pm_k p9M p9A p9F (Nat.le_refl _)
  · exact absurd c12 (by decide +kernel)
theorem q_first {h : AH} {d bc bs n : Nat} {σ : CS} {th : Int32} {a y : Int32} (hR : RMo h σ th) (hI : Iv σ) (hn : 159 ≤ n) (hd : 8 ≤ d) (h1 : 1 ≤ bc) (h2 : 12 ≤ bs)  : SM SR0 MX5_first d bc bs [.ref 135, .int a, .int y] h n (PM h n (tc sI sI) (opFirst σ a y)) := by
  obtain ⟨ρ, τ, hM, hA⟩ := hR
  obtain ⟨G0, hG0, eG0⟩ := hM.out
  refine sm_of pn_OverwalksModel rfl (Nat.le_of_ble_eq_true rfl) ?_
  rcases idxN 11 (by decide +kernel) a with qk1 | ⟨k, hk, rfl⟩
  · refine sw_aload_n (pc' := 1) rfl dX5_first_0 rfl ?_
    refine sw_iload_n (pc' := 2) rfl dX5_first_1 rfl ?_
    refine sw_S (M' := MX5_isNone) (d' := d - 1) (bc' := 0) (bs' := 0) (as := [_]) dX5_first_2 w_1165 ok_X5_isNone (q_isNone (by omega)) (by omega) (Nat.le_of_ble_eq_true rfl) (Nat.zero_le _) (Nat.zero_le _) (fun E h' n' _ z => det_x z) (det_k ?_)
    rw [show inB a 0 10 = false from no_x (N := 10) (by decide +kernel) qk1]
    show SW _ _ _ _ _ _ _ (.int 1 :: _) _ _ _
    refine sw_V (M' := MX5_isStopped__) (d' := d - 1) (bc' := 0) (bs' := 0) (ci := 6) (as := [_]) dX5_first_5 w_1235 ok_X5_isStopped__ (q_isStopped1 (a := true) hM hA (by omega)) hM.ob rfl (by omega) (Nat.le_of_ble_eq_true rfl) (Nat.zero_le _) (Nat.zero_le _) (fun E h' n' _ z => rp_x z) (rp_k (fun p5 p5ρ p5τ p5M p5A p5F => ?_))
    obtain ⟨Gp5, hGp5, eGp5⟩ := p5M.out
    show SW _ _ _ _ _ _ _ (.int 1 :: _) _ _ _
    refine sw_if_eq (pc' := 11) (tgt := 13) rfl dX5_first_8 (by decide +kernel) (fun c8 => ?_) (fun c8 => ?_)
    · exact absurd c8 (by decide +kernel)
    · refine sw_iconst (pc' := 12) (v := 0) rfl dX5_first_11 (by decide +kernel) ?_
      refine sw_ret (v := some _) ⟨dX5_first_12, _, rfl, rfl⟩ ?_
      rw [opFirst, onSh_x qk1]
      exact pm_x tc_1 p5M p5A p5F (Nat.le_refl _)
  have hck := hI.1 k hk
  refine sw_aload_n (pc' := 1) rfl dX5_first_0 rfl ?_
  refine sw_iload_n (pc' := 2) rfl dX5_first_1 rfl ?_
  refine sw_S (M' := MX5_isNone) (d' := d - 1) (bc' := 0) (bs' := 0) (as := [_]) dX5_first_2 w_1165 ok_X5_isNone (q_isNone (by omega)) (by omega) (Nat.le_of_ble_eq_true rfl) (Nat.zero_le _) (Nat.zero_le _) (fun E h' n' _ z => det_x z) (det_k ?_)
  rw [show inB (nI k) 0 10 = true from inB_k (N := 10) (by omega) (by decide +kernel)]
  show SW _ _ _ _ _ _ _ (.int 0 :: _) _ _ _
  refine sw_V (M' := MX5_isStopped__) (d' := d - 1) (bc' := 0) (bs' := 0) (ci := 6) (as := [_]) dX5_first_5 w_1235 ok_X5_isStopped__ (q_isStopped1 (a := false) hM hA (by omega)) hM.ob rfl (by omega) (Nat.le_of_ble_eq_true rfl) (Nat.zero_le _) (Nat.zero_le _) (fun E h' n' _ z => rp_x z) (rp_k (fun p5 p5ρ p5τ p5M p5A p5F => ?_))
  obtain ⟨Gp5, hGp5, eGp5⟩ := p5M.out
  show SW _ _ _ _ _ _ _ (.int 0 :: _) _ _ _
  refine sw_if_eq (pc' := 11) (tgt := 13) rfl dX5_first_8 (by decide +kernel) (fun c8 => ?_) (fun c8 => ?_)
  · refine sw_aload_n (pc' := 14) rfl dX5_first_13 rfl ?_
    refine sw_getf (ci := 6) (k := 4) (pc' := 17) rfl dX5_first_14 (by decide +kernel) w_1117 p5M.ob rfl ?_
    refine sw_iload_n (pc' := 18) rfl dX5_first_17 rfl ?_
    refine sw_iald (j := k) (pc' := 19) rfl dX5_first_18 p5M.sz rfl (by omega) (by decide +kernel) ?_
    refine sw_if_ne (pc' := 22) (tgt := 29) rfl dX5_first_19 (by decide +kernel) (fun c19 => ?_) (fun c19 => ?_)
    · have hp : 0 < σ.2.1 k := Nat.pos_of_ne_zero (fun e => c19 (by rw [e]; rfl))
      refine sw_aload_n (pc' := 30) rfl dX5_first_29 rfl ?_
      refine sw_getf (ci := 6) (k := 3) (pc' := 33) rfl dX5_first_30 (by decide +kernel) w_1116 p5M.ob rfl ?_
      refine sw_iload_n (pc' := 34) rfl dX5_first_33 rfl ?_
      refine sw_aald (j := k) (pc' := 35) rfl dX5_first_34 hGp5 (by decide +kernel) (by decide +kernel) rfl (by omega) (by decide +kernel) (eGp5 k (by omega)) ?_
      refine sw_iload_n (pc' := 36) rfl dX5_first_35 rfl ?_
      refine sw_if_eq (pc' := 39) (tgt := 50) rfl dX5_first_36 (by decide +kernel) (fun c36 => ?_) (fun c36 => ?_)
      · refine sw_iconst (pc' := 51) (v := 0) rfl dX5_first_50 (by decide +kernel) ?_
        refine sw_iald (j := 0) (pc' := 52) rfl dX5_first_51 (p5M.row (k := k) (by omega)) rfl (by omega) (by decide +kernel) ?_
        rw [p5A.1 k (by omega) 0 (by omega)]
        refine sw_ret (v := some _) ⟨dX5_first_52, _, rfl, rfl⟩ ?_
        rw [opFirst, onSh_k hk, if_neg (fun e => c19 (by rw [e]; rfl)), if_pos c36, taI_0 (by omega) (hI.1 k hk)]
        exact pm_k p5M p5A p5F (Nat.le_refl _)
      · refine sw_aload_n (pc' := 40) rfl dX5_first_39 rfl ?_
        refine sw_getf (ci := 6) (k := 4) (pc' := 43) rfl dX5_first_40 (by decide +kernel) w_1117 p5M.ob rfl ?_
        refine sw_iload_n (pc' := 44) rfl dX5_first_43 rfl ?_
        refine sw_iald (j := k) (pc' := 45) rfl dX5_first_44 p5M.sz rfl (by omega) (by decide +kernel) ?_
        refine sw_iconst (pc' := 46) (v := 1) rfl dX5_first_45 (by decide +kernel) ?_
        refine sw_isub (pc' := 47) rfl dX5_first_46 ?_
        refine sw_goto (tgt := 51) dX5_first_47 (by decide +kernel) ?_
        refine sw_iald (j := σ.2.1 k - 1) (pc' := 52) rfl dX5_first_51 (p5M.row (k := k) (by omega)) (nI_m1 hp) (by omega) (by decide +kernel) ?_
        rw [p5A.1 k (by omega) (σ.2.1 k - 1) (by omega)]
        refine sw_ret (v := some _) ⟨dX5_first_52, _, rfl, rfl⟩ ?_
        rw [opFirst, onSh_k hk, if_neg (fun e => c19 (by rw [e]; rfl)), if_neg c36, nI_m1 hp, taI_in (by omega) (hI.1 k hk)]
        exact pm_k p5M p5A p5F (Nat.le_refl _)
    · refine sw_aload_n (pc' := 23) rfl dX5_first_22 rfl ?_
      refine sw_V (M' := MX5_no) (d' := d - 1) (bc' := 0) (bs' := 0) (ci := 6) (as := []) dX5_first_23 w_1184 ok_X5_no (q_no p5M p5A) p5M.ob rfl (by omega) (Nat.le_of_ble_eq_true rfl) (Nat.zero_le _) (Nat.zero_le _) (fun E h' n' _ z => rp_x z) (rp_k (fun p23 p23ρ p23τ p23M p23A p23F => ?_))
      obtain ⟨Gp23, hGp23, eGp23⟩ := p23M.out
      refine sw_goto (tgt := 52) dX5_first_26 (by decide +kernel) ?_
      refine sw_ret (v := some _) ⟨dX5_first_52, _, rfl, rfl⟩ ?_
      rw [opFirst, onSh_k hk, if_pos (show σ.2.1 k = 0 from (nI_eq (b := 0) (by have := hI.1 k hk; omega) (by decide +kernel)).mp c19)]
      exact pm_k p23M p23A (p5F.tr p23F (Nat.le_refl _)) (Nat.le_refl _)
  · exact absurd c8 (by decide +kernel)
theorem q_put {h : AH} {d bc bs n : Nat} {σ : CS} {th : Int32} {a x : Int32} (hR : RMo h σ th) (hI : Iv σ) (hn : 159 ≤ n) (hd : 8 ≤ d) (h1 : 1 ≤ bc) (h2 : 12 ≤ bs)  : SM SR0 MX5_put d bc bs [.ref 135, .int a, .int x] h n (PM h n (tc sI sA) (opPut σ a x)) := by
  obtain ⟨ρ, τ, hM, hA⟩ := hR
  obtain ⟨G0, hG0, eG0⟩ := hM.out
  refine sm_of pn_OverwalksModel rfl (Nat.le_of_ble_eq_true rfl) ?_
  rcases idxN 11 (by decide +kernel) a with qk1 | ⟨k, hk, rfl⟩
  · refine sw_aload_n (pc' := 1) rfl dX5_put_0 rfl ?_
    refine sw_iload_n (pc' := 2) rfl dX5_put_1 rfl ?_
    refine sw_S (M' := MX5_isNone) (d' := d - 1) (bc' := 0) (bs' := 0) (as := [_]) dX5_put_2 w_1165 ok_X5_isNone (q_isNone (by omega)) (by omega) (Nat.le_of_ble_eq_true rfl) (Nat.zero_le _) (Nat.zero_le _) (fun E h' n' _ z => det_x z) (det_k ?_)
    rw [show inB a 0 10 = false from no_x (N := 10) (by decide +kernel) qk1]
    show SW _ _ _ _ _ _ _ (.int 1 :: _) _ _ _
    refine sw_iload_n (pc' := 6) rfl dX5_put_5 rfl ?_
    refine sw_S (M' := MX5_isNoThing) (d' := d - 1) (bc' := 0) (bs' := 0) (as := [_]) dX5_put_6 w_1171 ok_X5_isNoThing (q_isNoThing (by omega)) (by omega) (Nat.le_of_ble_eq_true rfl) (Nat.zero_le _) (Nat.zero_le _) (fun E h' n' _ z => det_x z) (det_k ?_)
    refine sw_iload_n (pc' := 10) rfl dX5_put_9 rfl ?_
    refine sw_S (M' := MX5_isNone) (d' := d - 1) (bc' := 0) (bs' := 0) (as := [_]) dX5_put_10 w_1165 ok_X5_isNone (q_isNone (by omega)) (by omega) (Nat.le_of_ble_eq_true rfl) (Nat.zero_le _) (Nat.zero_le _) (fun E h' n' _ z => det_x z) (det_k ?_)
    rw [show inB a 0 10 = false from no_x (N := 10) (by decide +kernel) qk1]
    show SW _ _ _ _ _ _ _ (.int 1 :: _) _ _ _
    refine sw_if_ne (pc' := 16) (tgt := 31) rfl dX5_put_13 (by decide +kernel) (fun c13 => ?_) (fun c13 => ?_)
    · refine sw_iconst (pc' := 32) (v := 0) rfl dX5_put_31 (by decide +kernel) ?_
      refine sw_V (M' := MX5_isStopped) (d' := d - 1) (bc' := 0) (bs' := 0) (ci := 6) (as := [_, _, _]) dX5_put_32 w_1174 ok_X5_isStopped (q_isStopped (a := true) (b := (!inB x 0 100)) (c := false) hM hA) hM.ob rfl (by omega) (Nat.le_of_ble_eq_true rfl) (Nat.zero_le _) (Nat.zero_le _) (fun E h' n' _ z => rp_x z) (rp_k (fun p32 p32ρ p32τ p32M p32A p32F => ?_))
      obtain ⟨Gp32, hGp32, eGp32⟩ := p32M.out
      show SW _ _ _ _ _ _ _ (.int 1 :: _) _ _ _
      refine sw_if_eq (pc' := 38) (tgt := 40) rfl dX5_put_35 (by decide +kernel) (fun c35 => ?_) (fun c35 => ?_)
      · exact absurd c35 (by decide +kernel)
      · refine sw_iconst (pc' := 39) (v := 0) rfl dX5_put_38 (by decide +kernel) ?_
        refine sw_ret (v := some _) ⟨dX5_put_39, _, rfl, rfl⟩ ?_
        rw [opPut, onSh_x qk1]
        exact pm_x tc_1 p32M p32A p32F (Nat.le_refl _)
    · exact absurd c13 (by decide +kernel)
  have hck := hI.1 k hk
  rcases Classical.em (x < 0 ∨ 100 < x) with qx | qx
  · refine sw_aload_n (pc' := 1) rfl dX5_put_0 rfl ?_
    refine sw_iload_n (pc' := 2) rfl dX5_put_1 rfl ?_
    refine sw_S (M' := MX5_isNone) (d' := d - 1) (bc' := 0) (bs' := 0) (as := [_]) dX5_put_2 w_1165 ok_X5_isNone (q_isNone (by omega)) (by omega) (Nat.le_of_ble_eq_true rfl) (Nat.zero_le _) (Nat.zero_le _) (fun E h' n' _ z => det_x z) (det_k ?_)
    rw [show inB (nI k) 0 10 = true from inB_k (N := 10) (by omega) (by decide +kernel)]
    show SW _ _ _ _ _ _ _ (.int 0 :: _) _ _ _
    refine sw_iload_n (pc' := 6) rfl dX5_put_5 rfl ?_
    refine sw_S (M' := MX5_isNoThing) (d' := d - 1) (bc' := 0) (bs' := 0) (as := [_]) dX5_put_6 w_1171 ok_X5_isNoThing (q_isNoThing (by omega)) (by omega) (Nat.le_of_ble_eq_true rfl) (Nat.zero_le _) (Nat.zero_le _) (fun E h' n' _ z => det_x z) (det_k ?_)
    rw [show inB x 0 100 = false from inB_x qx]
    show SW _ _ _ _ _ _ _ (.int 1 :: _) _ _ _
    refine sw_iload_n (pc' := 10) rfl dX5_put_9 rfl ?_
    refine sw_S (M' := MX5_isNone) (d' := d - 1) (bc' := 0) (bs' := 0) (as := [_]) dX5_put_10 w_1165 ok_X5_isNone (q_isNone (by omega)) (by omega) (Nat.le_of_ble_eq_true rfl) (Nat.zero_le _) (Nat.zero_le _) (fun E h' n' _ z => det_x z) (det_k ?_)
    rw [show inB (nI k) 0 10 = true from inB_k (N := 10) (by omega) (by decide +kernel)]
    show SW _ _ _ _ _ _ _ (.int 0 :: _) _ _ _
    refine sw_if_ne (pc' := 16) (tgt := 31) rfl dX5_put_13 (by decide +kernel) (fun c13 => ?_) (fun c13 => ?_)
    · exact absurd c13 (by decide +kernel)
    · refine sw_aload_n (pc' := 17) rfl dX5_put_16 rfl ?_
      refine sw_getf (ci := 6) (k := 4) (pc' := 20) rfl dX5_put_17 (by decide +kernel) w_1117 hM.ob rfl ?_
      refine sw_iload_n (pc' := 21) rfl dX5_put_20 rfl ?_
      refine sw_iald (j := k) (pc' := 22) rfl dX5_put_21 hM.sz rfl (by omega) (by decide +kernel) ?_
      refine sw_bipush (pc' := 24) (v := 12) rfl dX5_put_22 (by decide +kernel) ?_
      refine sw_icmp_ne (pc' := 27) (tgt := 31) rfl dX5_put_24 (by decide +kernel) (fun c24 => ?_) (fun c24 => ?_)
      · refine sw_iconst (pc' := 32) (v := 0) rfl dX5_put_31 (by decide +kernel) ?_
        refine sw_V (M' := MX5_isStopped) (d' := d - 1) (bc' := 0) (bs' := 0) (ci := 6) (as := [_, _, _]) dX5_put_32 w_1174 ok_X5_isStopped (q_isStopped (a := false) (b := true) (c := false) hM hA) hM.ob rfl (by omega) (Nat.le_of_ble_eq_true rfl) (Nat.zero_le _) (Nat.zero_le _) (fun E h' n' _ z => rp_x z) (rp_k (fun p32 p32ρ p32τ p32M p32A p32F => ?_))
        obtain ⟨Gp32, hGp32, eGp32⟩ := p32M.out
        show SW _ _ _ _ _ _ _ (.int 1 :: _) _ _ _
        refine sw_if_eq (pc' := 38) (tgt := 40) rfl dX5_put_35 (by decide +kernel) (fun c35 => ?_) (fun c35 => ?_)
        · exact absurd c35 (by decide +kernel)
        · refine sw_iconst (pc' := 39) (v := 0) rfl dX5_put_38 (by decide +kernel) ?_
          refine sw_ret (v := some _) ⟨dX5_put_39, _, rfl, rfl⟩ ?_
          rw [opPut, onSh_k hk, if_pos qx]
          exact pm_x (tc_2 sAI) p32M p32A p32F (Nat.le_refl _)
      · refine sw_iconst (pc' := 28) (v := 1) rfl dX5_put_27 (by decide +kernel) ?_
        refine sw_goto (tgt := 32) dX5_put_28 (by decide +kernel) ?_
        refine sw_V (M' := MX5_isStopped) (d' := d - 1) (bc' := 0) (bs' := 0) (ci := 6) (as := [_, _, _]) dX5_put_32 w_1174 ok_X5_isStopped (q_isStopped (a := false) (b := true) (c := true) hM hA) hM.ob rfl (by omega) (Nat.le_of_ble_eq_true rfl) (Nat.zero_le _) (Nat.zero_le _) (fun E h' n' _ z => rp_x z) (rp_k (fun p32 p32ρ p32τ p32M p32A p32F => ?_))
        obtain ⟨Gp32, hGp32, eGp32⟩ := p32M.out
        show SW _ _ _ _ _ _ _ (.int 1 :: _) _ _ _
        refine sw_if_eq (pc' := 38) (tgt := 40) rfl dX5_put_35 (by decide +kernel) (fun c35 => ?_) (fun c35 => ?_)
        · exact absurd c35 (by decide +kernel)
        · refine sw_iconst (pc' := 39) (v := 0) rfl dX5_put_38 (by decide +kernel) ?_
          refine sw_ret (v := some _) ⟨dX5_put_39, _, rfl, rfl⟩ ?_
          rw [opPut, onSh_k hk, if_pos qx]
          exact pm_x (tc_2 sAI) p32M p32A p32F (Nat.le_refl _)
  rcases Classical.em (12 < nI (σ.2.1 k) + 1) with qr | qr
  · refine sw_aload_n (pc' := 1) rfl dX5_put_0 rfl ?_
    refine sw_iload_n (pc' := 2) rfl dX5_put_1 rfl ?_
    refine sw_S (M' := MX5_isNone) (d' := d - 1) (bc' := 0) (bs' := 0) (as := [_]) dX5_put_2 w_1165 ok_X5_isNone (q_isNone (by omega)) (by omega) (Nat.le_of_ble_eq_true rfl) (Nat.zero_le _) (Nat.zero_le _) (fun E h' n' _ z => det_x z) (det_k ?_)
    rw [show inB (nI k) 0 10 = true from inB_k (N := 10) (by omega) (by decide +kernel)]
    show SW _ _ _ _ _ _ _ (.int 0 :: _) _ _ _
    refine sw_iload_n (pc' := 6) rfl dX5_put_5 rfl ?_
    refine sw_S (M' := MX5_isNoThing) (d' := d - 1) (bc' := 0) (bs' := 0) (as := [_]) dX5_put_6 w_1171 ok_X5_isNoThing (q_isNoThing (by omega)) (by omega) (Nat.le_of_ble_eq_true rfl) (Nat.zero_le _) (Nat.zero_le _) (fun E h' n' _ z => det_x z) (det_k ?_)
    rw [show inB x 0 100 = true from inB_n qx]
    show SW _ _ _ _ _ _ _ (.int 0 :: _) _ _ _
    refine sw_iload_n (pc' := 10) rfl dX5_put_9 rfl ?_
    refine sw_S (M' := MX5_isNone) (d' := d - 1) (bc' := 0) (bs' := 0) (as := [_]) dX5_put_10 w_1165 ok_X5_isNone (q_isNone (by omega)) (by omega) (Nat.le_of_ble_eq_true rfl) (Nat.zero_le _) (Nat.zero_le _) (fun E h' n' _ z => det_x z) (det_k ?_)
    rw [show inB (nI k) 0 10 = true from inB_k (N := 10) (by omega) (by decide +kernel)]
    show SW _ _ _ _ _ _ _ (.int 0 :: _) _ _ _
    refine sw_if_ne (pc' := 16) (tgt := 31) rfl dX5_put_13 (by decide +kernel) (fun c13 => ?_) (fun c13 => ?_)
    · exact absurd c13 (by decide +kernel)
    · refine sw_aload_n (pc' := 17) rfl dX5_put_16 rfl ?_
      refine sw_getf (ci := 6) (k := 4) (pc' := 20) rfl dX5_put_17 (by decide +kernel) w_1117 hM.ob rfl ?_
      refine sw_iload_n (pc' := 21) rfl dX5_put_20 rfl ?_
      refine sw_iald (j := k) (pc' := 22) rfl dX5_put_21 hM.sz rfl (by omega) (by decide +kernel) ?_
      refine sw_bipush (pc' := 24) (v := 12) rfl dX5_put_22 (by decide +kernel) ?_
      refine sw_icmp_ne (pc' := 27) (tgt := 31) rfl dX5_put_24 (by decide +kernel) (fun c24 => ?_) (fun c24 => ?_)
      · exact absurd ((nI12 (hI.1 k hk)).mpr (full (hI.1 k hk) qr)) c24
      · refine sw_iconst (pc' := 28) (v := 1) rfl dX5_put_27 (by decide +kernel) ?_
        refine sw_goto (tgt := 32) dX5_put_28 (by decide +kernel) ?_
        refine sw_V (M' := MX5_isStopped) (d' := d - 1) (bc' := 0) (bs' := 0) (ci := 6) (as := [_, _, _]) dX5_put_32 w_1174 ok_X5_isStopped (q_isStopped (a := false) (b := false) (c := true) hM hA) hM.ob rfl (by omega) (Nat.le_of_ble_eq_true rfl) (Nat.zero_le _) (Nat.zero_le _) (fun E h' n' _ z => rp_x z) (rp_k (fun p32 p32ρ p32τ p32M p32A p32F => ?_))
        obtain ⟨Gp32, hGp32, eGp32⟩ := p32M.out
        show SW _ _ _ _ _ _ _ (.int 1 :: _) _ _ _
        refine sw_if_eq (pc' := 38) (tgt := 40) rfl dX5_put_35 (by decide +kernel) (fun c35 => ?_) (fun c35 => ?_)
        · exact absurd c35 (by decide +kernel)
        · refine sw_iconst (pc' := 39) (v := 0) rfl dX5_put_38 (by decide +kernel) ?_
          refine sw_ret (v := some _) ⟨dX5_put_39, _, rfl, rfl⟩ ?_
          rw [opPut, onSh_k hk, if_neg qx, if_pos qr]
          exact pm_x (tc_3 sSI sSA) p32M p32A p32F (Nat.le_refl _)
  have hroom : σ.2.1 k < 12 := full_n (hI.1 k hk) qr
  refine sw_aload_n (pc' := 1) rfl dX5_put_0 rfl ?_
  refine sw_iload_n (pc' := 2) rfl dX5_put_1 rfl ?_
  refine sw_S (M' := MX5_isNone) (d' := d - 1) (bc' := 0) (bs' := 0) (as := [_]) dX5_put_2 w_1165 ok_X5_isNone (q_isNone (by omega)) (by omega) (Nat.le_of_ble_eq_true rfl) (Nat.zero_le _) (Nat.zero_le _) (fun E h' n' _ z => det_x z) (det_k ?_)
  rw [show inB (nI k) 0 10 = true from inB_k (N := 10) (by omega) (by decide +kernel)]
  show SW _ _ _ _ _ _ _ (.int 0 :: _) _ _ _
  refine sw_iload_n (pc' := 6) rfl dX5_put_5 rfl ?_
  refine sw_S (M' := MX5_isNoThing) (d' := d - 1) (bc' := 0) (bs' := 0) (as := [_]) dX5_put_6 w_1171 ok_X5_isNoThing (q_isNoThing (by omega)) (by omega) (Nat.le_of_ble_eq_true rfl) (Nat.zero_le _) (Nat.zero_le _) (fun E h' n' _ z => det_x z) (det_k ?_)
  rw [show inB x 0 100 = true from inB_n qx]
  show SW _ _ _ _ _ _ _ (.int 0 :: _) _ _ _
  refine sw_iload_n (pc' := 10) rfl dX5_put_9 rfl ?_
  refine sw_S (M' := MX5_isNone) (d' := d - 1) (bc' := 0) (bs' := 0) (as := [_]) dX5_put_10 w_1165 ok_X5_isNone (q_isNone (by omega)) (by omega) (Nat.le_of_ble_eq_true rfl) (Nat.zero_le _) (Nat.zero_le _) (fun E h' n' _ z => det_x z) (det_k ?_)
  rw [show inB (nI k) 0 10 = true from inB_k (N := 10) (by omega) (by decide +kernel)]
  show SW _ _ _ _ _ _ _ (.int 0 :: _) _ _ _
  refine sw_if_ne (pc' := 16) (tgt := 31) rfl dX5_put_13 (by decide +kernel) (fun c13 => ?_) (fun c13 => ?_)
  · exact absurd c13 (by decide +kernel)
  · refine sw_aload_n (pc' := 17) rfl dX5_put_16 rfl ?_
    refine sw_getf (ci := 6) (k := 4) (pc' := 20) rfl dX5_put_17 (by decide +kernel) w_1117 hM.ob rfl ?_
    refine sw_iload_n (pc' := 21) rfl dX5_put_20 rfl ?_
    refine sw_iald (j := k) (pc' := 22) rfl dX5_put_21 hM.sz rfl (by omega) (by decide +kernel) ?_
    refine sw_bipush (pc' := 24) (v := 12) rfl dX5_put_22 (by decide +kernel) ?_
    refine sw_icmp_ne (pc' := 27) (tgt := 31) rfl dX5_put_24 (by decide +kernel) (fun c24 => ?_) (fun c24 => ?_)
    · refine sw_iconst (pc' := 32) (v := 0) rfl dX5_put_31 (by decide +kernel) ?_
      refine sw_V (M' := MX5_isStopped) (d' := d - 1) (bc' := 0) (bs' := 0) (ci := 6) (as := [_, _, _]) dX5_put_32 w_1174 ok_X5_isStopped (q_isStopped (a := false) (b := false) (c := false) hM hA) hM.ob rfl (by omega) (Nat.le_of_ble_eq_true rfl) (Nat.zero_le _) (Nat.zero_le _) (fun E h' n' _ z => rp_x z) (rp_k (fun p32 p32ρ p32τ p32M p32A p32F => ?_))
      obtain ⟨Gp32, hGp32, eGp32⟩ := p32M.out
      show SW _ _ _ _ _ _ _ (.int 0 :: _) _ _ _
      refine sw_if_eq (pc' := 38) (tgt := 40) rfl dX5_put_35 (by decide +kernel) (fun c35 => ?_) (fun c35 => ?_)
      · refine sw_iload_n (pc' := 41) rfl dX5_put_40 rfl ?_
        refine sw_S (M' := MX5_isTable) (d' := d - 1) (bc' := 0) (bs' := 0) (as := [_]) dX5_put_41 w_1178 ok_X5_isTable (q_isTable) (by omega) (Nat.le_of_ble_eq_true rfl) (Nat.zero_le _) (Nat.zero_le _) (fun E h' n' _ z => det_x z) (det_k ?_)
        rw [tb_k (k := k) (by omega)]
        refine sw_if_ne (pc' := 47) (tgt := 60) rfl dX5_put_44 (by decide +kernel) (fun c44 => ?_) (fun c44 => ?_)
        · refine sw_aload_n (pc' := 61) rfl dX5_put_60 rfl ?_
          refine sw_V (M' := MX5_no) (d' := d - 1) (bc' := 0) (bs' := 0) (ci := 6) (as := []) dX5_put_61 w_1184 ok_X5_no (q_no p32M p32A) p32M.ob rfl (by omega) (Nat.le_of_ble_eq_true rfl) (Nat.zero_le _) (Nat.zero_le _) (fun E h' n' _ z => rp_x z) (rp_k (fun p61 p61ρ p61τ p61M p61A p61F => ?_))
          obtain ⟨Gp61, hGp61, eGp61⟩ := p61M.out
          refine sw_goto (tgt := 76) dX5_put_64 (by decide +kernel) ?_
          refine sw_ret (v := some _) ⟨dX5_put_76, _, rfl, rfl⟩ ?_
          rw [opPut, onSh_k hk, if_neg qx, if_neg qr, if_pos (Or.inl (of_decide_eq_true (bI_1 c44)))]
          exact pm_k p61M p61A (p32F.tr p61F (Nat.le_refl _)) (Nat.le_refl _)
        · refine sw_iload_n (pc' := 48) rfl dX5_put_47 rfl ?_
          refine sw_bipush (pc' := 50) (v := 100) rfl dX5_put_48 (by decide +kernel) ?_
          refine sw_icmp_ne (pc' := 53) (tgt := 67) rfl dX5_put_50 (by decide +kernel) (fun c50 => ?_) (fun c50 => ?_)
          · refine sw_aload_n (pc' := 68) rfl dX5_put_67 rfl ?_
            refine sw_iload_n (pc' := 69) rfl dX5_put_68 rfl ?_
            refine sw_iload_n (pc' := 70) rfl dX5_put_69 rfl ?_
            refine sw_V (M' := MX5_come) (d' := d - 1) (bc' := 0) (bs' := 0) (ci := 6) (as := [_, _]) dX5_put_70 w_1188 ok_X5_come (q_come p32M p32A (k := k) (by omega) (fun e => e ▸ hI.2.2.2.1) (by omega) (by omega)) p32M.ob rfl (by omega) (Nat.le_of_ble_eq_true rfl) (Nat.zero_le _) (Nat.zero_le _) (fun E h' n' _ z => rp_x z) (rp_k (fun p70 p70ρ p70τ p70M p70A p70F => ?_))
            obtain ⟨Gp70, hGp70, eGp70⟩ := p70M.out
            refine sw_S (M' := MX5_one) (d' := d - 1) (bc' := 0) (bs' := 0) (as := [_]) dX5_put_73 w_1196 ok_X5_one (q_one (q := (ldY (σ.1 k) (σ.2.1 k) (kdO k) x))) (by omega) (Nat.le_of_ble_eq_true rfl) (Nat.zero_le _) (Nat.zero_le _) (fun E h' n' _ z => det_x z) (det_k ?_)
            refine sw_ret (v := some _) ⟨dX5_put_76, _, rfl, rfl⟩ ?_
            rw [opPut, onSh_k hk, if_neg qx, if_neg qr, if_neg (fun q => q.elim (of_decide_eq_false (bI_0 c44)) (fun e => Bool.noConfusion (e.symm.trans (tk_n c50))))]
            exact pm_k p70M p70A (p32F.tr p70F (Nat.le_refl _)) (Nat.le_refl _)
          · refine sw_iload_n (pc' := 54) rfl dX5_put_53 rfl ?_
            refine sw_S (M' := MX5_takesNothing) (d' := d - 1) (bc' := 0) (bs' := 0) (as := [_]) dX5_put_54 w_1181 ok_X5_takesNothing (q_takesNothing (by omega)) (by omega) (Nat.le_of_ble_eq_true rfl) (Nat.zero_le _) (Nat.zero_le _) (fun E h' n' _ z => det_x z) (det_k ?_)
            rw [tn_k (k := k) (by omega)]
            refine sw_if_ne (pc' := 60) (tgt := 67) rfl dX5_put_57 (by decide +kernel) (fun c57 => ?_) (fun c57 => ?_)
            · refine sw_aload_n (pc' := 68) rfl dX5_put_67 rfl ?_
              refine sw_iload_n (pc' := 69) rfl dX5_put_68 rfl ?_
              refine sw_iload_n (pc' := 70) rfl dX5_put_69 rfl ?_
              refine sw_V (M' := MX5_come) (d' := d - 1) (bc' := 0) (bs' := 0) (ci := 6) (as := [_, _]) dX5_put_70 w_1188 ok_X5_come (q_come p32M p32A (k := k) (by omega) (fun e => e ▸ hI.2.2.2.1) (by omega) (by omega)) p32M.ob rfl (by omega) (Nat.le_of_ble_eq_true rfl) (Nat.zero_le _) (Nat.zero_le _) (fun E h' n' _ z => rp_x z) (rp_k (fun p70 p70ρ p70τ p70M p70A p70F => ?_))
              obtain ⟨Gp70, hGp70, eGp70⟩ := p70M.out
              refine sw_S (M' := MX5_one) (d' := d - 1) (bc' := 0) (bs' := 0) (as := [_]) dX5_put_73 w_1196 ok_X5_one (q_one (q := (ldY (σ.1 k) (σ.2.1 k) (kdO k) x))) (by omega) (Nat.le_of_ble_eq_true rfl) (Nat.zero_le _) (Nat.zero_le _) (fun E h' n' _ z => det_x z) (det_k ?_)
              refine sw_ret (v := some _) ⟨dX5_put_76, _, rfl, rfl⟩ ?_
              rw [opPut, onSh_k hk, if_neg qx, if_neg qr, if_neg (fun q => q.elim (of_decide_eq_false (bI_0 c44)) (fun e => Bool.noConfusion (e.symm.trans (tk_t (bI_1 c57)))))]
              exact pm_k p70M p70A (p32F.tr p70F (Nat.le_refl _)) (Nat.le_refl _)
            · refine sw_aload_n (pc' := 61) rfl dX5_put_60 rfl ?_
              refine sw_V (M' := MX5_no) (d' := d - 1) (bc' := 0) (bs' := 0) (ci := 6) (as := []) dX5_put_61 w_1184 ok_X5_no (q_no p32M p32A) p32M.ob rfl (by omega) (Nat.le_of_ble_eq_true rfl) (Nat.zero_le _) (Nat.zero_le _) (fun E h' n' _ z => rp_x z) (rp_k (fun p61 p61ρ p61τ p61M p61A p61F => ?_))
              obtain ⟨Gp61, hGp61, eGp61⟩ := p61M.out
              refine sw_goto (tgt := 76) dX5_put_64 (by decide +kernel) ?_
              refine sw_ret (v := some _) ⟨dX5_put_76, _, rfl, rfl⟩ ?_
              rw [opPut, onSh_k hk, if_neg qx, if_neg qr, if_pos (Or.inr (tk_f c50 (bI_0 c57)))]
              exact pm_k p61M p61A (p32F.tr p61F (Nat.le_refl _)) (Nat.le_refl _)
      · exact absurd c35 (by decide +kernel)
    · exact absurd ((nI12 (hI.1 k hk)).mp c24) (by have := full_n (hI.1 k hk) qr; omega)
theorem fp_i {f : Nat → Int32} {x : Int32} {c p : Nat} (h : fpN f x 0 c = some p) : p < c := by have := fpN_at h; omega
