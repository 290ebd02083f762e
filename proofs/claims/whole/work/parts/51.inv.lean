/-! what holds of the class's numbers before and after each call -/
def WA (σ : CS) (k : Nat) : Prop := ∃ A : Nat, wAh σ k = nI A ∧ A ≤ σ.2.1 (wO σ k) ∧ ((σ.2.2.2.2.1 k).2.2.2.2.2.2.2 = true → 1 ≤ A)
def Cn (σ : CS) (N : Nat) : Prop := ∃ S : Nat → Nat, (∀ k, k < 11 → σ.2.2.1 k = nI (S k) ∧ S k ≤ N) ∧ ∀ k, k < 6 → (σ.2.2.2.2.1 k).1 = true → ∃ s, s ≤ S (wO σ k) ∧ (σ.2.2.2.2.1 k).2.2.2.2.2.1 = nI s ∧ (s = S (wO σ k) → WA σ k)
def I0 (σ : CS) (N : Nat) : Prop := (∀ k, k < 11 → σ.2.1 k ≤ 12) ∧ (∀ k, k < 11 → ∀ j, j < σ.2.1 k → 0 ≤ σ.1 k j ∧ σ.1 k j ≤ 100) ∧ srt (σ.1 3) (σ.2.1 3) ∧ srt (σ.1 6) (σ.2.1 6) ∧ eis (σ.1 4) (σ.2.1 4) ∧ (∀ k, k < 6 → wO σ k < 11) ∧ Cn σ N
def IV (σ : CS) (N : Nat) : Prop := I0 σ N ∧ σ.2.1 6 = σ.2.1 7
theorem IV.iv {σ : CS} {N : Nat} (h : IV σ N) (hN : N < 2 ^ 31) : Iv σ := by
  obtain ⟨⟨h1, h2, h3, h4, h5, h6, S, h7, h8⟩, h9⟩ := h
  refine ⟨h1, h9, h2, h3, h4, h5, h6, fun k hk hm hs => ?_⟩
  obtain ⟨s, g1, g2, g3⟩ := h8 k hk hm
  refine g3 ?_
  have e : σ.2.2.1 (wO σ k) = (σ.2.2.2.2.1 k).2.2.2.2.2.1 := Decidable.of_not_not (of_decide_eq_false hs)
  have e7 := h7 (wO σ k) (h6 k hk)
  rw [g2, e7.1] at e
  exact ((nI_eq (by omega) (by omega)).mp e).symm
theorem IV.sn {σ : CS} {N : Nat} (h : IV σ N) : snB σ = true := by
  obtain ⟨⟨h1, h2, h3, h4, h5, h6, h7⟩, h9⟩ := h
  unfold snB
  rw [srt_riB0 h3, srt_riB0 h4, eis_eoB h5 (by omega), decide_eq_true h9]
  rfl
theorem Cn.mono {σ : CS} {N M : Nat} (h : Cn σ N) (hM : N ≤ M) : Cn σ M := by
  obtain ⟨S, h1, h2⟩ := h
  exact ⟨S, fun k hk => ⟨(h1 k hk).1, Nat.le_trans (h1 k hk).2 hM⟩, h2⟩
theorem I0.mono {σ : CS} {N M : Nat} (h : I0 σ N) (hM : N ≤ M) : I0 σ M := ⟨h.1, h.2.1, h.2.2.1, h.2.2.2.1, h.2.2.2.2.1, h.2.2.2.2.2.1, h.2.2.2.2.2.2.mono hM⟩
theorem IV.mono {σ : CS} {N M : Nat} (h : IV σ N) (hM : N ≤ M) : IV σ M := ⟨h.1.mono hM, h.2⟩
section
variable {σ : CS} {N k : Nat} {f : Nat → Int32} {c : Nat} {t : Int32}
theorem i0_row (h : I0 σ N) (hc : c ≤ 12) (ht : ∀ j, j < c → 0 ≤ f j ∧ f j ≤ 100) (h3 : k = 3 → srt f c) (h6 : k = 6 → srt f c) (h4 : k = 4 → eis f c) (s : Int32) :
    (∀ j, j < 11 → (sU σ k f c s t).2.1 j ≤ 12) ∧ (∀ i, i < 11 → ∀ j, j < (sU σ k f c s t).2.1 i → 0 ≤ (sU σ k f c s t).1 i j ∧ (sU σ k f c s t).1 i j ≤ 100) ∧ srt ((sU σ k f c s t).1 3) ((sU σ k f c s t).2.1 3) ∧ srt ((sU σ k f c s t).1 6) ((sU σ k f c s t).2.1 6) ∧ eis ((sU σ k f c s t).1 4) ((sU σ k f c s t).2.1 4) := by
  have e1 : ∀ j, (sU σ k f c s t).1 j = if j = k then f else σ.1 j := fun j => rfl
  have e2 : ∀ j, (sU σ k f c s t).2.1 j = if j = k then c else σ.2.1 j := fun j => rfl
  refine ⟨fun j hj => ?_, fun i hi j hj => ?_, ?_, ?_, ?_⟩
  · rw [e2]
    split
    · exact hc
    · exact h.1 j hj
  · rw [e2] at hj
    rw [e1]
    by_cases e : i = k
    · rw [if_pos e] at hj ⊢
      exact ht j hj
    · rw [if_neg e] at hj ⊢
      exact h.2.1 i hi j hj
  · rw [e1, e2]
    by_cases e : 3 = k
    · rw [if_pos e, if_pos e]; exact h3 e.symm
    · rw [if_neg e, if_neg e]; exact h.2.2.1
  · rw [e1, e2]
    by_cases e : 6 = k
    · rw [if_pos e, if_pos e]; exact h6 e.symm
    · rw [if_neg e, if_neg e]; exact h.2.2.2.1
  · rw [e1, e2]
    by_cases e : 4 = k
    · rw [if_pos e, if_pos e]; exact h4 e.symm
    · rw [if_neg e, if_neg e]; exact h.2.2.2.2.1
/-- a SHELF is SHIFTED -/
theorem I0.sh1 (h : I0 σ N) (hk : k < 11) (hc : c ≤ 12) (ht : ∀ j, j < c → 0 ≤ f j ∧ f j ≤ 100) (h3 : k = 3 → srt f c) (h6 : k = 6 → srt f c) (h4 : k = 4 → eis f c) : I0 (sU σ k f c (σ.2.2.1 k + 1) t) (N + 1) := by
  obtain ⟨g1, g2, g3, g4, g5⟩ := i0_row (t := t) h hc ht h3 h6 h4 (σ.2.2.1 k + 1)
  obtain ⟨S, q1, q2⟩ := h.2.2.2.2.2.2
  refine ⟨g1, g2, g3, g4, g5, h.2.2.2.2.2.1, up S k (S k + 1), fun j hj => ?_, fun j hj hm => ?_⟩
  · show up σ.2.2.1 k (σ.2.2.1 k + 1) j = _ ∧ _
    by_cases e : j = k
    · rw [e, up_s, up_s, (q1 k hk).1, nI_1]
      exact ⟨rfl, by have := (q1 k hk).2; omega⟩
    · rw [up_n e, up_n e]
      exact ⟨(q1 j hj).1, by have := (q1 j hj).2; omega⟩
  · obtain ⟨s, a1, a2, a3⟩ := q2 j hj hm
    refine ⟨s, ?_, a2, fun e => ?_⟩
    · show s ≤ up S k (S k + 1) (wO σ j)
      by_cases e : wO σ j = k
      · rw [e, up_s]; rw [e] at a1; omega
      · rw [up_n e]; exact a1
    · have e' : s = up S k (S k + 1) (wO σ j) := e
      by_cases e2 : wO σ j = k
      · rw [e2, up_s] at e'; rw [e2] at a1; omega
      · rw [up_n e2] at e'
        obtain ⟨A, b1, b2, b3⟩ := a3 e'
        refine ⟨A, b1, ?_, b3⟩
        show A ≤ up σ.2.1 k c (wO σ j)
        rw [up_n e2]
        exact b2
/-- things alone are otherwise -/
theorem I0.sh0 (h : I0 σ N) (ht : ∀ j, j < σ.2.1 k → 0 ≤ f j ∧ f j ≤ 100) (hk : k < 11) (h3 : k = 3 → srt f (σ.2.1 k)) (h6 : k = 6 → srt f (σ.2.1 k)) (h4 : k = 4 → eis f (σ.2.1 k)) : I0 (sU σ k f (σ.2.1 k) (σ.2.2.1 k) t) N := by
  obtain ⟨g1, g2, g3, g4, g5⟩ := i0_row (t := t) h (h.1 k hk) ht h3 h6 h4 (σ.2.2.1 k)
  obtain ⟨S, q1, q2⟩ := h.2.2.2.2.2.2
  refine ⟨g1, g2, g3, g4, g5, h.2.2.2.2.2.1, S, fun j hj => ?_, fun j hj hm => ?_⟩
  · show up σ.2.2.1 k (σ.2.2.1 k) j = _ ∧ _
    rw [up_id]
    exact q1 j hj
  · obtain ⟨s, a1, a2, a3⟩ := q2 j hj hm
    refine ⟨s, a1, a2, fun e => ?_⟩
    obtain ⟨A, b1, b2, b3⟩ := a3 e
    refine ⟨A, b1, ?_, b3⟩
    show A ≤ up σ.2.1 k (σ.2.1 k) (wO σ j)
    rw [up_id]
    exact b2
/-- a WALK is otherwise -/
theorem I0.wk (h : I0 σ N) {q : WT} (hq : q.2.1 < 11) (hw : ∀ S : Nat → Nat, (∀ k, k < 11 → σ.2.2.1 k = nI (S k) ∧ S k ≤ N) → (∀ k, k < 6 → (σ.2.2.2.2.1 k).1 = true → ∃ s, s ≤ S (wO σ k) ∧ (σ.2.2.2.2.1 k).2.2.2.2.2.1 = nI s ∧ (s = S (wO σ k) → WA σ k)) → q.1 = true → ∃ s, s ≤ S q.2.1 ∧ q.2.2.2.2.2.1 = nI s ∧ (s = S q.2.1 → ∃ A : Nat, q.2.2.2.1 - q.2.2.2.2.1 = nI A ∧ A ≤ σ.2.1 q.2.1 ∧ (q.2.2.2.2.2.2.2 = true → 1 ≤ A))) : I0 (wU σ k q) N := by
  obtain ⟨S, q1, q2⟩ := h.2.2.2.2.2.2
  have ew : ∀ j, (wU σ k q).2.2.2.2.1 j = if j = k then q else σ.2.2.2.2.1 j := fun j => rfl
  refine ⟨h.1, h.2.1, h.2.2.1, h.2.2.2.1, h.2.2.2.2.1, fun j hj => ?_, S, q1, fun j hj hm => ?_⟩
  · unfold wO
    rw [ew]
    split
    · exact hq
    · exact h.2.2.2.2.2.1 j hj
  · unfold wO WA wAh wO at *
    rw [ew] at hm ⊢
    by_cases e : j = k
    · rw [if_pos e] at hm ⊢
      exact hw S q1 q2 hm
    · rw [if_neg e] at hm ⊢
      exact q2 j hj hm
theorem I0.rf (h : I0 σ N) : I0 (rfU σ) N := h
theorem I0.kn (h : I0 σ N) : I0 (knU σ) N := h
end
theorem IV.rf {σ : CS} {N : Nat} (h : IV σ N) : IV (rfU σ) N := h
theorem IV.kn {σ : CS} {N : Nat} (h : IV σ N) : IV (knU σ) N := h
theorem sU_c {σ : CS} {k j c : Nat} {f : Nat → Int32} {s t : Int32} (h : j ≠ k) : (sU σ k f c s t).2.1 j = σ.2.1 j := up_n h
theorem sU_f {σ : CS} {k j c : Nat} {f : Nat → Int32} {s t : Int32} (h : j ≠ k) : (sU σ k f c s t).1 j = σ.1 j := up_n h
theorem sU_k {σ : CS} {k c : Nat} {f : Nat → Int32} {s t : Int32} : (sU σ k f c s t).2.1 k = c := up_s
/-- .. of a SHELF that isn't of the TABLE -/
theorem IV.sh1 {σ : CS} {N k c : Nat} {f : Nat → Int32} {t : Int32} (h : IV σ N) (hk : k < 11) (h7 : kdO k ≠ 5) (hc : c ≤ 12) (ht : ∀ j, j < c → 0 ≤ f j ∧ f j ≤ 100) (h3 : k = 3 → srt f c) (h4 : k = 4 → eis f c) : IV (sU σ k f c (σ.2.2.1 k + 1) t) (N + 1) := by
  have n6 : 6 ≠ k := fun e => h7 (e ▸ rfl)
  have n7 : 7 ≠ k := fun e => h7 (e ▸ rfl)
  exact ⟨h.1.sh1 hk hc ht h3 (fun e => absurd e.symm n6) h4, by rw [sU_c n6, sU_c n7]; exact h.2⟩
theorem IV.sh0 {σ : CS} {N k : Nat} {f : Nat → Int32} {t : Int32} (h : IV σ N) (hk : k < 11) (ht : ∀ j, j < σ.2.1 k → 0 ≤ f j ∧ f j ≤ 100) (h3 : k ≠ 3) (h6 : k ≠ 6) (h4 : k ≠ 4) : IV (sU σ k f (σ.2.1 k) (σ.2.2.1 k) t) N := by
  refine ⟨h.1.sh0 ht hk (fun e => absurd e h3) (fun e => absurd e h6) (fun e => absurd e h4), ?_⟩
  have e2 : ∀ j, (sU σ k f (σ.2.1 k) (σ.2.2.1 k) t).2.1 j = σ.2.1 j := fun j => by show up σ.2.1 k (σ.2.1 k) j = _; rw [up_id]
  rw [e2, e2]
  exact h.2
theorem IV.wk {σ : CS} {N k : Nat} {q : WT} (h : IV σ N) (g : I0 (wU σ k q) N) : IV (wU σ k q) N := ⟨g, h.2⟩
theorem x100 {x : Int32} (q : ¬ (x < 0 ∨ 100 < x)) : 0 ≤ x ∧ x ≤ 100 := ⟨Int32.not_lt.mp (fun g => q (Or.inl g)), Int32.not_lt.mp (fun g => q (Or.inr g))⟩
theorem x99 {x : Int32} (q : ¬ (x < 0 ∨ 100 ≤ x)) : 0 ≤ x ∧ x ≤ 100 := ⟨Int32.not_lt.mp (fun g => q (Or.inl g)), Int32.le_of_lt (Int32.not_le.mp (fun g => q (Or.inr g)))⟩
theorem IV.ld {σ : CS} {N k : Nat} {x : Int32} (h : IV σ N) (hk : k < 11) (h7 : kdO k ≠ 5) (hc : σ.2.1 k < 12) (hx : 0 ≤ x ∧ x ≤ 100) : IV (ldU σ k x) (N + 1) := by
  have hs := ldU_srt (σ := σ) (k := k) (x := x)
  unfold ldU at hs ⊢
  by_cases e : ldY (σ.1 k) (σ.2.1 k) (kdO k) x = true
  · rw [if_pos e] at hs ⊢
    have hp : ldP (σ.1 k) (σ.2.1 k) (kdO k) x ≤ σ.2.1 k := by
      unfold ldP
      split
      · have := @rpN_at (σ.1 k) x (σ.2.1 k) 0; omega
      · omega
    refine h.sh1 hk h7 (by omega) (laN_cs (Q := fun y => 0 ≤ y ∧ y ≤ 100) hp hx (h.1.2.1 k hk)) (fun e3 => ?_) (fun e4 => ?_)
    · have := hs e3 (by rw [e3]; exact h.1.2.2.1)
      have e1 : (sU σ k (laN (σ.1 k) (ldP (σ.1 k) (σ.2.1 k) (kdO k) x) x (σ.2.1 k)) (σ.2.1 k + 1) (σ.2.2.1 k + 1) (σ.2.2.2.1 k)).1 k = laN (σ.1 k) (ldP (σ.1 k) (σ.2.1 k) (kdO k) x) x (σ.2.1 k) := up_s
      rw [e1, sU_k] at this
      exact this
    · subst e4
      refine eis_la h.1.2.2.2.2.1 hp (fpN_isS ?_)
      unfold ldY at e
      cases g : (fpN (σ.1 4) x 0 (σ.2.1 4)).isSome with
      | false => rfl
      | true => rw [g] at e; exact absurd e (by decide +kernel)
  · rw [if_neg e]
    exact h.mono (Nat.le_succ _)
theorem IV.ca {k : Nat} {g : Nat → Int32} (hk : k < 11) (h7 : kdO k ≠ 5) {m : Nat} : ∀ {j : Nat} {w : Bool} {σ : CS} {N : Nat}, IV σ N → σ.2.1 k + m ≤ 12 → (∀ i, j ≤ i → i < j + m → 0 ≤ g i ∧ g i ≤ 100) → IV (caM k g j m w σ).2 (N + m) := by
  induction m with
  | zero => intro j w σ N h _ _; exact h
  | succ m ih =>
    intro j w σ N h hc hg
    unfold caM
    have hu := ldU_c2 (σ := σ) (k := k) (x := g j)
    have := ih (j := j + 1) (w := w || ldY (σ.1 k) (σ.2.1 k) (kdO k) (g j)) (h.ld hk h7 (by omega) (hg j (Nat.le_refl _) (by omega))) (by omega) (fun i h1 h2 => hg i (by omega) (by omega))
    rw [show N + 1 + m = N + (m + 1) by omega] at this
    exact this
/-! the calls -/
def IVo (σ : CS) (N : Nat) (q : ARes × CS) : Prop := IV q.2 (N + 12)
section
variable {σ : CS} {N : Nat} {a b x y : Int32}
theorem iv_same {r : ARes} (h : IV σ N) : IVo σ N (r, σ) := h.mono (by omega)
theorem iv_rf {r : ARes} (h : IV σ N) : IVo σ N (r, rfU σ) := h.rf.mono (by omega)
theorem onSh_iv {g : Nat → ARes × CS} (h : IV σ N) (hg : ∀ k, k < 11 → IVo σ N (g k)) : IVo σ N (onSh a σ g) := by
  rcases idxN 11 (by decide +kernel) a with q | ⟨k, hk, rfl⟩
  · rw [onSh_x q]; exact iv_same h
  · rw [onSh_k hk]; exact hg k hk
theorem onWk_iv {g : Nat → ARes × CS} (h : IV σ N) (hg : ∀ k, k < 6 → IVo σ N (g k)) : IVo σ N (onWk a σ g) := by
  rcases idxN 6 (by decide +kernel) a with q | ⟨k, hk, rfl⟩
  · rw [onWk_x q]; exact iv_same h
  · rw [onWk_k hk]; exact hg k hk
theorem onRw_iv {g : Nat → ARes × CS} (h : IV σ N) (hg : ∀ k, k < 11 → ¬ kP (kdO k) = false → IVo σ N (g k)) : IVo σ N (onRw a σ g) := by
  rcases idxN 11 (by decide +kernel) a with q | ⟨k, hk, rfl⟩
  · rw [onRw_x q]; exact iv_same h
  · by_cases q : kP (kdO k) = false
    · rw [onRw_y hk q]; exact iv_same h
    · rw [onRw_k hk q]; exact hg k hk q
theorem onLi_iv {g : Nat → ARes × CS} (h : IV σ N) (hg : ∀ k, k < 11 → 8 ≤ k → IVo σ N (g k)) : IVo σ N (onLi a σ g) := by
  by_cases q : a < 8
  · rw [if_li q]; exact iv_same h
  · rcases idxN 11 (by decide +kernel) a with q1 | ⟨k, hk, rfl⟩
    · rw [onLi_z q q1]; exact iv_same h
    · rw [onLi_k q hk]
      refine hg k hk ?_
      have := Int32.not_lt.mp q
      exact (nI_leI (a := 8) (by decide +kernel) (by omega)).mp this
theorem iv_if {p : Prop} [Decidable p] {u v : ARes × CS} (h1 : p → IVo σ N u) (h2 : ¬ p → IVo σ N v) : IVo σ N (if p then u else v) := by
  by_cases q : p
  · rw [if_pos q]; exact h1 q
  · rw [if_neg q]; exact h2 q
theorem row_k {k : Nat} (hk : k < 11) (h : ¬ kP (kdO k) = false) : kdO k ≠ 5 ∧ k ≠ 3 ∧ k ≠ 4 ∧ k ≠ 6 ∧ k ≠ 7 := by revert k; decide
theorem li_k8 {k : Nat} (hk : k < 11) (h : 8 ≤ k) : kdO k ≠ 5 ∧ k ≠ 3 ∧ k ≠ 4 ∧ k ≠ 6 ∧ k ≠ 7 := by
  refine ⟨?_, by omega, by omega, by omega, by omega⟩
  have : ∀ k : Nat, k < 11 → 8 ≤ k → kdO k ≠ 5 := by decide +kernel
  exact this k hk h
theorem iv_size (h : IV σ N) : IVo σ N (opSize σ a) := onSh_iv h (fun _ _ => iv_same h)
theorem iv_isEmpty (h : IV σ N) : IVo σ N (opIsEmpty σ a) := onSh_iv h (fun _ _ => iv_same h)
theorem iv_has (h : IV σ N) : IVo σ N (opHas σ a x) := onSh_iv h (fun _ _ => iv_if (fun _ => iv_same h) (fun _ => iv_if (fun _ => iv_rf h) (fun _ => iv_same h)))
theorem iv_often (h : IV σ N) : IVo σ N (opOften σ a x) := onSh_iv h (fun _ _ => iv_if (fun _ => iv_same h) (fun _ => iv_same h))
theorem iv_first (h : IV σ N) : IVo σ N (opFirst σ a y) := onSh_iv h (fun _ _ => iv_if (fun _ => iv_rf h) (fun _ => iv_same h))
theorem iv_more (h : IV σ N) : IVo σ N (opMore σ a) := onWk_iv h (fun _ _ => iv_if (fun _ => iv_same h) (fun _ => iv_if (fun _ => iv_rf h) (fun _ => iv_same h)))
theorem iv_valueOf (h : IV σ N) : IVo σ N (opValueOf σ x) := iv_if (fun _ => iv_same h) (fun _ => iv_same h)
theorem iv_placeOf (h : IV σ N) : IVo σ N (opPlaceOf σ a x y) := onRw_iv h (fun _ _ _ => iv_if (fun _ => iv_same h) (fun _ => iv_same h))
theorem iv_code (h : IV σ N) : IVo σ N (opCode σ a) := onSh_iv h (fun _ _ => iv_same h)
theorem iv_areAlike (h : IV σ N) : IVo σ N (opAreAlike σ a b) := onSh_iv h (fun _ _ => onSh_iv h (fun _ _ => iv_same h))
theorem iv_disjoint (h : IV σ N) : IVo σ N (opDisjoint σ a b) := onSh_iv h (fun _ _ => onSh_iv h (fun _ _ => iv_if (fun _ => iv_rf h) (fun _ => iv_same h)))
theorem iv_end (h : IV σ N) : IVo σ N (opEnd σ a y) := onSh_iv h (fun _ _ => iv_if (fun _ => iv_rf h) (fun _ => iv_same h))
theorem iv_ofWalk (h : IV σ N) : IVo σ N (opOfWalk σ a x) := onWk_iv h (fun _ _ => iv_if (fun _ => iv_same h) (fun _ => iv_if (fun _ => iv_same h) (fun _ => iv_same h)))
theorem iv_house (h : IV σ N) : IVo σ N (opHouse σ x) := by
  unfold opHouse
  exact iv_if (fun _ => iv_same h) (fun _ => iv_if (fun _ => iv_same h) (fun _ => iv_if (fun _ => iv_same h) (fun _ => iv_if (fun _ => iv_same h) (fun _ => iv_if (fun _ => iv_same h) (fun _ => iv_if (fun _ => iv_same h) (fun _ => iv_same h))))))
theorem iv_put (h : IV σ N) : IVo σ N (opPut σ a x) := onSh_iv h (fun k hk => iv_if (fun _ => iv_same h) (fun q1 => iv_if (fun _ => iv_same h) (fun q2 => iv_if (fun _ => iv_rf h) (fun q3 => (h.ld hk (fun e => q3 (Or.inl e)) (full_n (h.1.1 k hk) q2) (x100 q1)).mono (by omega)))))
theorem iv_change {p : Int32} (h : IV σ N) : IVo σ N (opChange σ a p x) := onRw_iv h (fun k hk q => iv_if (fun _ => iv_same h) (fun _ => iv_if (fun _ => iv_same h) (fun q2 => (h.sh0 hk (fun j hj => by
  unfold up
  split
  · exact x100 q2
  · exact h.1.2.1 k hk j hj) (row_k hk q).2.1 (row_k hk q).2.2.2.1 (row_k hk q).2.2.1).mono (by omega))))
theorem iv_turn (h : IV σ N) : IVo σ N (opTurn σ a) := onRw_iv h (fun k hk q => (h.sh0 hk (fun j hj => by
  rw [← rv_at j hj]
  exact h.1.2.1 k hk _ (by omega)) (row_k hk q).2.1 (row_k hk q).2.2.2.1 (row_k hk q).2.2.1).mono (by omega))
theorem iv_swap {p o : Int32} (h : IV σ N) : IVo σ N (opSwap σ a p o) := onRw_iv h (fun k hk q => iv_if (fun _ => iv_same h) (fun q1 => iv_if (fun _ => iv_same h) (fun q2 => (h.sh0 hk (fun j hj => by
  have hc := h.1.1 k hk
  have i1 : ∀ {z : Int32}, ¬ (z < 0 ∨ nI (σ.2.1 k) ≤ z) → z.toNatClampNeg < σ.2.1 k := by
    intro z hz
    rcases idxN (σ.2.1 k) (by omega) z with g | ⟨P, hP, rfl⟩
    · exact absurd g hz
    · rw [nI_clamp (by omega)]; exact hP
  unfold up
  split
  · exact h.1.2.1 k hk _ (i1 q1)
  · split
    · exact h.1.2.1 k hk _ (i1 q2)
    · exact h.1.2.1 k hk j hj) (row_k hk q).2.1 (row_k hk q).2.2.2.1 (row_k hk q).2.2.1).mono (by omega))))
theorem iv_fill (h : IV σ N) : IVo σ N (opFill σ a x) := onRw_iv h (fun k hk q => iv_if (fun _ => iv_same h) (fun q2 => (h.sh0 hk (fun j hj => by
  unfold fiN
  split
  · exact x100 q2
  · exact absurd hj (by assumption)) (row_k hk q).2.1 (row_k hk q).2.2.2.1 (row_k hk q).2.2.1).mono (by omega)))
theorem iv_replace (h : IV σ N) : IVo σ N (opReplace σ a x y) := onRw_iv h (fun k hk q => iv_if (fun _ => iv_same h) (fun _ => iv_if (fun _ => iv_same h) (fun q2 => (h.sh0 hk (fun j hj => by
  unfold rpF
  split
  · exact x100 q2
  · exact h.1.2.1 k hk j hj) (row_k hk q).2.1 (row_k hk q).2.2.2.1 (row_k hk q).2.2.1).mono (by omega))))
theorem iv_rotate (h : IV σ N) : IVo σ N (opRotate σ a x) := onRw_iv h (fun k hk q => iv_if (fun _ => iv_same h) (fun q1 => by
  have hc := h.1.1 k hk
  by_cases c0 : σ.2.1 k = 0
  · rw [if_pos c0]
    exact (h.sh0 hk (fun j hj => h.1.2.1 k hk j hj) (row_k hk q).2.1 (row_k hk q).2.2.2.1 (row_k hk q).2.2.1).mono (by omega)
  · rw [if_neg c0]
    refine (h.sh0 hk (fun j hj => ?_) (row_k hk q).2.1 (row_k hk q).2.2.2.1 (row_k hk q).2.2.1).mono (by omega)
    have hy := (rot_k q1 (Nat.pos_of_ne_zero c0) hc).1
    obtain ⟨i, hi, rfl⟩ := wrN_sur hy hj
    rw [mvO_wr hy hi]
    exact h.1.2.1 k hk i hi))
theorem iv_insert {p : Int32} (h : IV σ N) : IVo σ N (opInsert σ a p x) := onRw_iv h (fun k hk q => iv_if (fun _ => iv_same h) (fun q1 => iv_if (fun _ => iv_same h) (fun q2 => iv_if (fun _ => iv_same h) (fun q3 => by
  have hc := h.1.1 k hk
  have hp : p.toNatClampNeg ≤ σ.2.1 k := by
    rcases idxN (σ.2.1 k + 1) (by omega) p with g | ⟨P, hP, rfl⟩
    · exact absurd (by rw [nI_1]; exact g) q1
    · rw [nI_clamp (by omega)]; omega
  have := full_n hc q3
  exact (h.sh1 hk (row_k hk q).1 (by omega) (laN_cs (Q := fun y => 0 ≤ y ∧ y ≤ 100) hp (x100 q2) (h.1.2.1 k hk)) (fun e => absurd e (row_k hk q).2.1) (fun e => absurd e (row_k hk q).2.2.1)).mono (by omega)))))
theorem iv_remove {p : Int32} (h : IV σ N) : IVo σ N (opRemove σ a p) := onRw_iv h (fun k hk q => iv_if (fun _ => iv_same h) (fun q1 => by
  have hc := h.1.1 k hk
  have hp : 0 < σ.2.1 k := by
    rcases idxN (σ.2.1 k) (by omega) p with g | ⟨P, hP, rfl⟩
    · exact absurd g q1
    · omega
  exact (h.sh1 hk (row_k hk q).1 (by omega) (liN_cs (Q := fun y => 0 ≤ y ∧ y ≤ 100) (fun j hj => h.1.2.1 k hk j (by omega))) (fun e => absurd e (row_k hk q).2.1) (fun e => absurd e (row_k hk q).2.2.1)).mono (by omega)))
theorem IV.ldm {k : Nat} (hk : k < 11) (h7 : kdO k ≠ 5) (hx : 0 ≤ x ∧ x ≤ 100) {m : Nat} : ∀ {σ : CS} {N : Nat}, IV σ N → σ.2.1 k + m ≤ 12 → IV (ldM k x m σ) (N + m) := by
  induction m with
  | zero => intro σ N h _; exact h
  | succ m ih =>
    intro σ N h hc
    unfold ldM
    have hu := ldU_c2 (σ := σ) (k := k) (x := x)
    have := ih (h.ld hk h7 (by omega) hx) (by omega)
    rw [show N + 1 + m = N + (m + 1) by omega] at this
    exact this
theorem iv_copies {m : Int32} (h : IV σ N) : IVo σ N (opCopies σ a x m) := onRw_iv h (fun k hk q => iv_if (fun _ => iv_same h) (fun q1 => iv_if (fun _ => iv_same h) (fun q2 => iv_if (fun _ => iv_same h) (fun q3 => by
  have hc := h.1.1 k hk
  rcases idxR 12 (by decide +kernel) m with g | ⟨M, hM, rfl⟩
  · exact absurd g q2
  · rw [nI_clamp (by omega)]
    have := Nat.le_of_not_lt (fun g => q3 ((roomS hc hM).mpr g))
    exact (IV.ldm hk (row_k hk q).1 (x100 q1) h this).mono (by omega)))))
/-- of the TABLE both -/
theorem IV.two {N : Nat} {f g : Nat → Int32} {c : Nat} {s t : Int32} (h : IV σ N) (hc : c ≤ 12) (hf : ∀ j, j < c → 0 ≤ f j ∧ f j ≤ 100) (hg : ∀ j, j < c → 0 ≤ g j ∧ g j ≤ 100) (hs : srt f c) : IV (sU (sU σ 6 f c (σ.2.2.1 6 + 1) s) 7 g c ((sU σ 6 f c (σ.2.2.1 6 + 1) s).2.2.1 7 + 1) t) (N + 2) := by
  have h1 := h.1.sh1 (k := 6) (t := s) (by decide +kernel) hc hf (fun e => by cases e) (fun _ => hs) (fun e => by cases e)
  have h2 := h1.sh1 (k := 7) (f := g) (c := c) (t := t) (by decide +kernel) hc hg (fun e => by cases e) (fun e => by cases e) (fun e => by cases e)
  refine ⟨h2, ?_⟩
  rw [sU_c (by decide +kernel), sU_k, sU_k]
theorem IV.li {k p : Nat} (h : IV σ N) (hk : k < 11) (hp : p < σ.2.1 k) : IV (liU σ k p) (N + 2) := by
  unfold liU
  by_cases e : kdO k = 5
  · rw [if_pos e]
    have h67 := h.2
    have h6 := h.1.1 6 (by decide +kernel)
    have hp6 : p < σ.2.1 6 := by rcases kdT hk e with e1 | e1 <;> subst e1 <;> omega
    unfold lf1
    have e1 : (sU σ 6 (liN (σ.1 6) p (σ.2.1 6 - 1)) (σ.2.1 6 - 1) (σ.2.2.1 6 + 1) (σ.2.2.2.1 6)).1 7 = σ.1 7 := sU_f (by decide +kernel)
    have e2 : (sU σ 6 (liN (σ.1 6) p (σ.2.1 6 - 1)) (σ.2.1 6 - 1) (σ.2.2.1 6 + 1) (σ.2.2.2.1 6)).2.1 7 = σ.2.1 7 := sU_c (by decide +kernel)
    rw [e1, e2, ← h67]
    refine h.two (by omega) (liN_cs (Q := fun y => 0 ≤ y ∧ y ≤ 100) (fun j hj => h.1.2.1 6 (by decide +kernel) j (by omega))) (liN_cs (Q := fun y => 0 ≤ y ∧ y ≤ 100) (fun j hj => h.1.2.1 7 (by decide +kernel) j (by omega))) ?_
    exact srt_li (by rw [show σ.2.1 6 - 1 + 1 = σ.2.1 6 by omega]; exact h.1.2.2.2.1)
  · rw [if_neg e]
    have hc := h.1.1 k hk
    refine (h.sh1 hk e (by omega) (liN_cs (Q := fun y => 0 ≤ y ∧ y ≤ 100) (fun j hj => h.1.2.1 k hk j (by omega))) (fun e3 => ?_) (fun e4 => ?_)).mono (by omega)
    · subst e3
      exact srt_li (by rw [show σ.2.1 3 - 1 + 1 = σ.2.1 3 by omega]; exact h.1.2.2.1)
    · subst e4
      exact eis_li (by rw [show σ.2.1 4 - 1 + 1 = σ.2.1 4 by omega]; exact h.1.2.2.2.2.1)
theorem iv_take (h : IV σ N) : IVo σ N (opTake σ a x) := onSh_iv h (fun k hk => iv_if (fun _ => iv_same h) (fun _ => iv_if (fun _ => iv_rf h) (fun _ => by
  cases e : fpN (σ.1 k) x 0 (σ.2.1 k) with
  | none => exact iv_same h
  | some p => exact (h.li hk (fp_i e)).mono (by omega))))
theorem srt_0 {f : Nat → Int32} : srt f 0 := fun i j _ h => absurd h (Nat.not_lt_zero _)
theorem eis_0 {f : Nat → Int32} : eis f 0 := fun i j _ h => absurd h (Nat.not_lt_zero _)
theorem I0.em (k : Nat) (h : I0 σ N) (hk : k < 11) : I0 (la1 σ k) (N + 1) := by
  unfold la1
  by_cases e : σ.2.1 k = 0
  · rw [if_pos e]
    have g := (h.sh0 (k := k) (f := σ.1 k) (t := σ.2.2.2.1 k) (h.2.1 k hk) hk (fun e3 => by subst e3; exact h.2.2.1) (fun e3 => by subst e3; exact h.2.2.2.1) (fun e3 => by subst e3; exact h.2.2.2.2.1)).mono (Nat.le_succ N)
    rw [e] at g
    exact g
  · rw [if_neg e]
    exact h.sh1 hk (by omega) (fun j hj => absurd hj (Nat.not_lt_zero _)) (fun _ => srt_0) (fun _ => srt_0) (fun _ => eis_0)
theorem iv_clear (h : IV σ N) : IVo σ N (opClear σ a) := onSh_iv h (fun k hk => by
  show IV (laU σ k) (N + 12)
  unfold laU
  by_cases e : kdO k = 5
  · rw [if_pos e]
    exact ⟨((h.1.em 6 (by decide +kernel)).em 7 (by decide +kernel)).mono (by omega), by
      have e1 : (la1 (la1 σ 6) 7).2.1 6 = (la1 σ 6).2.1 6 := sU_c (by decide +kernel)
      have e2 : (la1 (la1 σ 6) 7).2.1 7 = 0 := sU_k
      have e3 : (la1 σ 6).2.1 6 = 0 := sU_k
      rw [e1, e2, e3]⟩
  · rw [if_neg e]
    have n6 : 6 ≠ k := fun g => e (g ▸ rfl)
    have n7 : 7 ≠ k := fun g => e (g ▸ rfl)
    exact ⟨(h.1.em k hk).mono (by omega), by
      have e1 : (la1 σ k).2.1 6 = σ.2.1 6 := sU_c n6
      have e2 : (la1 σ k).2.1 7 = σ.2.1 7 := sU_c n7
      rw [e1, e2]; exact h.2⟩)
theorem iv_pair (h : IV σ N) : IVo σ N (opPair σ x y) := iv_if (fun _ => iv_same h) (fun q1 => iv_if (fun _ => iv_same h) (fun q2 => by
  cases e : fpN (σ.1 6) x 0 (σ.2.1 6) with
  | some p =>
    refine (h.sh0 (k := 7) (by decide +kernel) (fun j hj => ?_) (by decide +kernel) (by decide +kernel) (by decide +kernel)).mono (by omega)
    unfold up
    split
    · exact x99 q2
    · exact h.1.2.1 7 (by decide +kernel) j hj
  | none =>
    refine iv_if (fun _ => iv_same h) (fun q3 => ?_)
    have hc := full_n (h.1.1 6 (by decide +kernel)) q3
    have h67 := h.2
    show IV (la2 (la2 σ 6 (prR σ x) x) 7 (prR σ x) y) (N + 12)
    have hR : prR σ x ≤ σ.2.1 6 := by have := @rpN_at (σ.1 6) x (σ.2.1 6) 0; unfold prR; omega
    unfold la2
    have e1 : (sU σ 6 (laN (σ.1 6) (prR σ x) x (σ.2.1 6)) (σ.2.1 6 + 1) (σ.2.2.1 6 + 1) (σ.2.2.2.1 6)).1 7 = σ.1 7 := sU_f (by decide +kernel)
    have e2 : (sU σ 6 (laN (σ.1 6) (prR σ x) x (σ.2.1 6)) (σ.2.1 6 + 1) (σ.2.2.1 6 + 1) (σ.2.2.2.1 6)).2.1 7 = σ.2.1 7 := sU_c (by decide +kernel)
    rw [e1, e2, ← h67]
    refine (h.two (by omega) (laN_cs (Q := fun y => 0 ≤ y ∧ y ≤ 100) hR (x99 q1) (h.1.2.1 6 (by decide +kernel))) (laN_cs (Q := fun y => 0 ≤ y ∧ y ≤ 100) hR (x99 q2) (fun j hj => h.1.2.1 7 (by decide +kernel) j (by omega))) ?_).mono (by omega)
    exact srt_la h.1.2.2.2.1 hR (fun i hi => rpN_lt i (Nat.zero_le _) hi) (rpN_ge h.1.2.2.2.1 (fun i hi => fpN_none.mp e i (Nat.zero_le _) (by omega)))))
theorem IV.kp {k j m : Nat} (h : IV σ N) (hk : k < 11) (h8 : 8 ≤ k) (hj : j < 11) : IV (kpU σ k j m) (N + 1) := by
  have hc := h.1.1 j hj
  refine h.sh1 hk (li_k8 hk h8).1 (by omega) (fun i hi => ?_) (fun e => absurd e (li_k8 hk h8).2.1) (fun e => absurd e (li_k8 hk h8).2.2.1)
  rw [blN_in hi]
  exact h.1.2.1 j hj _ (by omega)
theorem iv_keep (h : IV σ N) : IVo σ N (opKeep σ a b) := onLi_iv h (fun k hk h8 => onSh_iv h (fun j hj => (h.kp hk h8 hj).mono (by omega)))
theorem iv_drop (h : IV σ N) : IVo σ N (opDrop σ a) := onWk_iv h (fun k hk => (h.wk (h.1.wk (q := (false, (σ.2.2.2.2.1 k).2)) (h.1.2.2.2.2.2.1 k hk) (fun S _ _ e => by cases e))).mono (by omega))
theorem iv_walk (h : IV σ N) : IVo σ N (opWalk σ a b y) := onWk_iv h (fun k hk => onSh_iv h (fun j hj => iv_if (fun _ => iv_same h) (fun _ => iv_if (fun _ => iv_same h) (fun _ => (h.wk (h.1.wk hj (fun S q1 _ _ => ⟨S j, Nat.le_refl _, (q1 j hj).1, fun _ => ⟨0, (show (0 : Int32) - 0 = nI 0 by decide +kernel), Nat.zero_le _, fun e => by cases e⟩⟩))).mono (by omega)))))
/-- a WALK gives m: so many there are, where it isn't stale -/
theorem IV.gv {k m : Nat} (h : IV σ N) (hk : k < 6) (hm : ∀ S : Nat → Nat, (∀ k, k < 11 → σ.2.2.1 k = nI (S k) ∧ S k ≤ N) → ∀ s, s ≤ S (wO σ k) → (σ.2.2.2.2.1 k).2.2.2.2.2.1 = nI s → s = S (wO σ k) → ∀ A, wAh σ k = nI A → A ≤ σ.2.1 (wO σ k) → A + m ≤ σ.2.1 (wO σ k)) : IV (gvU σ k m) N := by
  refine h.wk (h.1.wk (h.1.2.2.2.2.2.1 k hk) (fun S q1 q2 e => ?_))
  obtain ⟨s, a1, a2, a3⟩ := q2 k hk e
  refine ⟨s, a1, a2, fun es => ?_⟩
  obtain ⟨A, b1, b2, b3⟩ := a3 es
  refine ⟨A + m, ?_, hm S q1 s a1 a2 es A b1 b2, fun el => ?_⟩
  · have := wAh_g (m := m) b1
    unfold wAh gvU wU at this
    dsimp only at this
    rw [up_s] at this
    exact this
  · by_cases m0 : m = 0
    · have el' : (if m = 0 then (σ.2.2.2.2.1 k).2.2.2.2.2.2.2 else true) = true := el
      rw [if_pos m0] at el'
      have := b3 el'
      omega
    · omega
theorem st_s {k s : Nat} {S : Nat → Nat} (h : IV σ N) (hk : k < 6) (q1 : ∀ k, k < 11 → σ.2.2.1 k = nI (S k) ∧ S k ≤ N) (hss : (σ.2.2.2.2.1 k).2.2.2.2.2.1 = nI s) (es : s = S (wO σ k)) : wSt σ k = false := decide_eq_false (p := σ.2.2.1 (wO σ k) ≠ (σ.2.2.2.2.1 k).2.2.2.2.2.1) (fun q => q (by rw [(q1 _ (h.1.2.2.2.2.2.1 k hk)).1, hss, es]))
theorem iv_next (h : IV σ N) : IVo σ N (opNext σ a) := onWk_iv h (fun k hk => iv_if (fun _ => iv_same h) (fun _ => iv_if (fun _ => iv_rf h) (fun q2 => (h.gv hk (fun S q1 s a1 a2 es A b1 b2 => by
  have hs := st_s h hk q1 a2 es
  have hc := h.1.1 _ (h.1.2.2.2.2.2.1 k hk)
  have g : wHM σ k = true := mkT q2
  rw [wHM_m hs, b1] at g
  have := (nI_ltI (by omega) (by omega)).mp (of_decide_eq_true g)
  omega)).mono (by omega))))
theorem gu_le {k m : Nat} (h : IV σ N) (hk : k < 6) : ∀ S : Nat → Nat, (∀ k, k < 11 → σ.2.2.1 k = nI (S k) ∧ S k ≤ N) → ∀ s, s ≤ S (wO σ k) → (σ.2.2.2.2.1 k).2.2.2.2.2.1 = nI s → s = S (wO σ k) → ∀ A, wAh σ k = nI A → A ≤ σ.2.1 (wO σ k) → A + wGu σ k m ≤ σ.2.1 (wO σ k) := by
  intro S q1 s a1 a2 es A b1 b2
  have hs := st_s h hk q1 a2 es
  have hc := h.1.1 _ (h.1.2.2.2.2.2.1 k hk)
  rw [wGu_c hs hc b1 b2]
  split <;> omega
theorem iv_skip (h : IV σ N) : IVo σ N (opSkip σ a x) := onWk_iv h (fun k hk => iv_if (fun _ => iv_same h) (fun _ => iv_if (fun _ => iv_same h) (fun _ => iv_if (fun _ => iv_rf h) (fun _ => (h.gv hk (gu_le h hk)).mono (by omega)))))
theorem iv_pour (h : IV σ N) : IVo σ N (opPour σ a b) := onSh_iv h (fun k hk => onSh_iv h (fun j hj => iv_if (fun _ => iv_same h) (fun q1 => iv_if (fun _ => iv_rf h) (fun q2 => by
  have hck := h.1.1 k hk
  have hcj := h.1.1 j hj
  have hr := Nat.le_of_not_lt (fun g => q1 ((roomS hcj hck).mpr g))
  have h7 : kdO j ≠ 5 := fun e => q2 (cpB_1 e)
  have e := pb_ca (s := k) (j := j) (c := σ.2.1 k) (f := σ.1 k) hk hj 0 (σ.2.1 k) 0 false σ (fun _ _ => rfl) (Nat.le_refl _) hck hr (by omega)
  show IV (pbM k j (0 + 0) (σ.2.1 k) false σ).2 (N + 12)
  rw [e]
  exact (IV.ca hj h7 h hr (fun i _ hi => h.1.2.1 k hk _ (by omega))).mono (by omega)))))
theorem cfN_ne {a b c e : Int32} {m : Nat} : ∀ {j : Nat} (i : Nat), j ≤ i → i < cfN a b c e j m → o4 (nI i) a b c e ≠ -1 := by
  induction m with
  | zero => intro j i h1 h2; unfold cfN at h2; omega
  | succ m ih =>
    intro j i h1 h2
    unfold cfN at h2
    by_cases q : o4 (nI j) a b c e = -1
    · rw [if_pos q] at h2; omega
    · rw [if_neg q] at h2
      by_cases g : i = j
      · rw [g]; exact q
      · exact ih i (by omega) h2
theorem m1_0 {x : Int32} (q : ¬ (x < -1 ∨ 100 < x)) (n : x ≠ -1) : 0 ≤ x ∧ x ≤ 100 := by
  refine ⟨?_, Int32.not_lt.mp (fun g => q (Or.inr g))⟩
  have h1 : (-1 : Int32) ≤ x := Int32.not_lt.mp (fun g => q (Or.inl g))
  have h2 : (-1 : Int32) < x := Int32.lt_of_le_of_ne h1 (fun e => n e.symm)
  have t1 := Int32.lt_iff_toInt_lt.mp h2
  rw [Int32.le_iff_toInt_le]
  have e1 : (-1 : Int32).toInt = -1 := by decide +kernel
  have e2 : (0 : Int32).toInt = 0 := by decide +kernel
  omega
theorem liU_c {σ : CS} {k p : Nat} (hk : k < 11) (h67 : σ.2.1 6 = σ.2.1 7) : (liU σ k p).2.1 k = σ.2.1 k - 1 := by
  unfold liU
  by_cases e : kdO k = 5
  · rw [if_pos e]
    rcases kdT hk e with e1 | e1
    · subst e1
      have g1 : (lf1 (lf1 σ 6 p) 7 p).2.1 6 = (lf1 σ 6 p).2.1 6 := sU_c (by decide +kernel)
      have g2 : (lf1 σ 6 p).2.1 6 = σ.2.1 6 - 1 := sU_k
      rw [g1, g2]
    · subst e1
      have g1 : (lf1 (lf1 σ 6 p) 7 p).2.1 7 = (lf1 σ 6 p).2.1 7 - 1 := sU_k
      have g2 : (lf1 σ 6 p).2.1 7 = σ.2.1 7 := sU_c (by decide +kernel)
      rw [g1, g2]
  · rw [if_neg e]
    exact up_s
theorem iv_to {k : Nat} (h : IV σ N) (hN : N < 2 ^ 31) (hk : k < 6) (hs : wSt σ k = false) (hct : (σ.2.2.2.2.1 k).2.2.2.2.2.2.2 = true) (hm : (σ.2.2.2.2.1 k).1 = true) : IV (toU σ k (liU σ (wO σ k) ((wAh σ k).toNatClampNeg - 1))) (N + 12) := by
  have ov := h.1.2.2.2.2.2.1 k hk
  have hc := h.1.1 _ ov
  obtain ⟨A, b1, b2, b3⟩ := (h.iv hN).2.2.2.2.2.2.2 k hk hm hs
  have hA0 := b3 hct
  rw [tcl (by omega) b1]
  have hl := h.li ov (p := A - 1) (by omega)
  have hcc := liU_c (σ := σ) (p := A - 1) ov h.2
  refine IV.mono (N := N + 2) (hl.wk (hl.1.wk ov (fun S q1 _ _ => ⟨S (wO σ k), Nat.le_refl _, (q1 _ ov).1, fun _ => ⟨A - 1, ?_, ?_, fun e => by cases e⟩⟩))) (by omega)
  · show (σ.2.2.2.2.1 k).2.2.2.1 - ((σ.2.2.2.2.1 k).2.2.2.2.1 + 1) = nI (A - 1)
    rw [i_sub2, show (σ.2.2.2.2.1 k).2.2.2.1 - (σ.2.2.2.2.1 k).2.2.2.2.1 = nI A from b1, nI_m1 hA0]
  · show A - 1 ≤ (liU σ (wO σ k) (A - 1)).2.1 (wO σ k)
    rw [hcc]
    omega
theorem iv_putAll {c e : Int32} (h : IV σ N) : IVo σ N (opPutAll σ a b x c e) := onSh_iv h (fun k hk => iv_if (fun _ => iv_same h) (fun q1 => iv_if (fun _ => iv_same h) (fun q2 => iv_if (fun _ => iv_same h) (fun q3 => iv_if (fun _ => iv_same h) (fun q4 => iv_if (fun _ => iv_same h) (fun q5 => iv_if (fun _ => iv_rf h) (fun q6 => iv_if (fun _ => iv_rf h) (fun _ => by
  have hck := h.1.1 k hk
  have hcf := (cfN_le (a := b) (b := x) (c := c) (e := e) (m := 4) (j := 0)).2
  have hr := Nat.le_of_not_lt (fun g => q5 ((roomS hck (by omega)).mpr g))
  show IV (paM k b x c e 0 (cfN b x c e 0 4) false σ).2 (N + 12)
  rw [caM_pa]
  refine (IV.ca hk q6 h hr (fun i _ hi => ?_)).mono (by omega)
  have hn := cfN_ne (a := b) (b := x) (c := c) (e := e) (j := 0) (m := 4) i (Nat.zero_le _) (by omega)
  have hb : ¬ (o4 (nI i) b x c e < -1 ∨ 100 < o4 (nI i) b x c e) := by
    unfold o4
    split
    · exact q1
    · split
      · exact q2
      · split
        · exact q3
        · exact q4
  exact m1_0 hb hn))))))))
theorem iv_takeOut (h : IV σ N) (hN : N < 2 ^ 31) : IVo σ N (opTakeOut σ a) := onWk_iv h (fun k hk => iv_if (fun _ => iv_same h) (fun q0 => iv_if (fun _ => iv_rf h) (fun q => by
  have hs : wSt σ k = false := by
    cases e : wSt σ k with
    | false => rfl
    | true => exact absurd (Or.inl e) q
  have hct : (σ.2.2.2.2.1 k).2.2.2.2.2.2.2 = true := by
    cases e : (σ.2.2.2.2.1 k).2.2.2.2.2.2.2 with
    | true => rfl
    | false => exact absurd (Or.inr (Or.inr (Or.inr (wCt_f1 e)))) q
  exact iv_to h hN hk hs hct (mkT q0))))
theorem iv_keepRest (h : IV σ N) : IVo σ N (opKeepRest σ a b) := onWk_iv h (fun k hk => onLi_iv h (fun j hj h8 => iv_if (fun _ => iv_same h) (fun q0 => iv_if (fun _ => iv_rf h) (fun _ => by
  have e : krU σ k j (wAh σ k).toNatClampNeg (wGu σ k 12) = kpU (gvU σ k (wGu σ k 12)) j (wO σ k) (wAh σ k).toNatClampNeg := rfl
  show IV (krU σ k j (wAh σ k).toNatClampNeg (wGu σ k 12)) (N + 12)
  rw [e]
  exact ((h.gv hk (gu_le h hk)).kp hj h8 (h.1.2.2.2.2.2.1 k hk)).mono (by omega)))))
theorem iv_pourRest (h : IV σ N) (hN : N < 2 ^ 31) : IVo σ N (opPourRest σ a b) := onWk_iv h (fun k hk => onSh_iv h (fun j hj => iv_if (fun _ => iv_same h) (fun q0 => iv_if (fun _ => iv_same h) (fun q1 => iv_if (fun _ => iv_rf h) (fun q2 => by
  have ov := h.1.2.2.2.2.2.1 k hk
  have hc := h.1.1 _ ov
  have hcj := h.1.1 j hj
  have hr := Nat.le_of_not_lt (fun g => q1 ((roomS hcj hc).mpr g))
  have h7 : kdO j ≠ 5 := fun e => q2 (Or.inr (cpB_1 e))
  have hga : wGa σ k = true := by
    cases e : wGa σ k with
    | true => rfl
    | false => exact absurd (Or.inl e) q2
  obtain ⟨A, eA, hA⟩ := wi_at ((h.iv hN).2.2.2.2.2.2.2 k hk) q0 hga
  show IV (pbM (wO σ k) j (wAh σ k).toNatClampNeg (σ.2.1 (wO σ k) - (wAh σ k).toNatClampNeg) false (gvU σ k (wGu σ k 12))).2 (N + 12)
  rw [tcl (by omega) eA]
  have e := pb_ca (s := wO σ k) (j := j) (c := σ.2.1 (wO σ k)) (f := σ.1 (wO σ k)) ov hj A (σ.2.1 (wO σ k) - A) 0 false (gvU σ k (wGu σ k 12)) (fun _ _ => rfl) (Nat.le_refl _) hc (by show σ.2.1 j + (σ.2.1 (wO σ k) - A) ≤ 12; omega) (by omega)
  rw [show pbM (wO σ k) j A (σ.2.1 (wO σ k) - A) false (gvU σ k (wGu σ k 12)) = _ from e]
  exact (IV.ca hj h7 (h.gv hk (gu_le h hk)) (by show σ.2.1 j + (σ.2.1 (wO σ k) - (A + 0)) ≤ 12; omega) (fun i _ hi => h.1.2.1 _ ov _ (by omega))).mono (by omega))))))
end
