/-! the law's first frame -/
/-- the constants -/
def K0 (L : Nat) (xs : Nat → Int32) : AH := fun i => if i = 0 then .inl (0, L, .inl xs) else if 1 ≤ i ∧ i ≤ 5 then .inr (7, [.int (bI (kP i)), .int (bI (kN i)), .int (bI (kE i))]) else if i = 6 then .inl (2, 100, .inl (fun j => Int32.ofNat (48 + j / 10))) else if i = 7 then .inl (2, 100, .inl (fun j => Int32.ofNat (48 + j % 10))) else if i = 40 then .inr (0, [.ref 41, .int 0]) else if i = 41 then .inl (2, 1, .inl (fun _ => 33)) else if i = 48 then .inr (0, [.ref 49, .int 0]) else if i = 49 then .inl (2, 0, .inl (fun _ => 0)) else if i = 50 then .inr (0, [.ref 51, .int 0]) else if i = 51 then .inl (2, 1, .inl (fun _ => 32)) else if i = 52 then .inr (0, [.ref 53, .int 0]) else if i = 53 then .inl (2, 1, .inl (fun _ => 45)) else if i = 54 then .inr (0, [.ref 55, .int 0]) else if i = 55 then .inl (2, 1, .inl (fun _ => 47)) else .inl (5, 0, .inl (fun _ => 0))
theorem K0_inr {L : Nat} {xs : Nat → Int32} {i ci : Nat} {fs : List Value} (h : K0 L xs i = .inr (ci, fs)) : ((1 ≤ i ∧ i ≤ 5) ∧ ci = 7 ∧ fs = [.int (bI (kP i)), .int (bI (kN i)), .int (bI (kE i))]) ∨ ((i = 40) ∧ ci = 0 ∧ fs = [.ref 41, .int 0]) ∨ ((i = 48) ∧ ci = 0 ∧ fs = [.ref 49, .int 0]) ∨ ((i = 50) ∧ ci = 0 ∧ fs = [.ref 51, .int 0]) ∨ ((i = 52) ∧ ci = 0 ∧ fs = [.ref 53, .int 0]) ∨ ((i = 54) ∧ ci = 0 ∧ fs = [.ref 55, .int 0]) := by
  unfold K0 at h
  by_cases d0 : i = 0
  · rw [if_pos d0] at h
    cases h
  rw [if_neg d0] at h
  by_cases d1 : 1 ≤ i ∧ i ≤ 5
  · rw [if_pos d1] at h
    cases h
    exact Or.inl ⟨d1, rfl, rfl⟩
  rw [if_neg d1] at h
  by_cases d2 : i = 6
  · rw [if_pos d2] at h
    cases h
  rw [if_neg d2] at h
  by_cases d3 : i = 7
  · rw [if_pos d3] at h
    cases h
  rw [if_neg d3] at h
  by_cases d4 : i = 40
  · rw [if_pos d4] at h
    cases h
    exact Or.inr (Or.inl ⟨d4, rfl, rfl⟩)
  rw [if_neg d4] at h
  by_cases d5 : i = 41
  · rw [if_pos d5] at h
    cases h
  rw [if_neg d5] at h
  by_cases d6 : i = 48
  · rw [if_pos d6] at h
    cases h
    exact Or.inr (Or.inr (Or.inl ⟨d6, rfl, rfl⟩))
  rw [if_neg d6] at h
  by_cases d7 : i = 49
  · rw [if_pos d7] at h
    cases h
  rw [if_neg d7] at h
  by_cases d8 : i = 50
  · rw [if_pos d8] at h
    cases h
    exact Or.inr (Or.inr (Or.inr (Or.inl ⟨d8, rfl, rfl⟩)))
  rw [if_neg d8] at h
  by_cases d9 : i = 51
  · rw [if_pos d9] at h
    cases h
  rw [if_neg d9] at h
  by_cases d10 : i = 52
  · rw [if_pos d10] at h
    cases h
    exact Or.inr (Or.inr (Or.inr (Or.inr (Or.inl ⟨d10, rfl, rfl⟩))))
  rw [if_neg d10] at h
  by_cases d11 : i = 53
  · rw [if_pos d11] at h
    cases h
  rw [if_neg d11] at h
  by_cases d12 : i = 54
  · rw [if_pos d12] at h
    cases h
    exact Or.inr (Or.inr (Or.inr (Or.inr (Or.inr (⟨d12, rfl, rfl⟩)))))
  rw [if_neg d12] at h
  by_cases d13 : i = 55
  · rw [if_pos d13] at h
    cases h
  rw [if_neg d13] at h
  cases h
theorem K0_inl {L : Nat} {xs : Nat → Int32} {i t n : Nat} {f : Nat → Int32} (h : K0 L xs i = .inl (t, n, .inl f)) (ht : t < 3) : ((i = 0) ∧ t = 0 ∧ n = L ∧ f = xs) ∨ ((i = 6) ∧ t = 2 ∧ n = 100 ∧ f = (fun j => Int32.ofNat (48 + j / 10))) ∨ ((i = 7) ∧ t = 2 ∧ n = 100 ∧ f = (fun j => Int32.ofNat (48 + j % 10))) ∨ ((i = 41) ∧ t = 2 ∧ n = 1 ∧ f = (fun _ => 33)) ∨ ((i = 49) ∧ t = 2 ∧ n = 0 ∧ f = (fun _ => 0)) ∨ ((i = 51) ∧ t = 2 ∧ n = 1 ∧ f = (fun _ => 32)) ∨ ((i = 53) ∧ t = 2 ∧ n = 1 ∧ f = (fun _ => 45)) ∨ ((i = 55) ∧ t = 2 ∧ n = 1 ∧ f = (fun _ => 47)) := by
  unfold K0 at h
  by_cases d0 : i = 0
  · rw [if_pos d0] at h
    cases h
    exact Or.inl ⟨d0, rfl, rfl, rfl⟩
  rw [if_neg d0] at h
  by_cases d1 : 1 ≤ i ∧ i ≤ 5
  · rw [if_pos d1] at h
    cases h
  rw [if_neg d1] at h
  by_cases d2 : i = 6
  · rw [if_pos d2] at h
    cases h
    exact Or.inr (Or.inl ⟨d2, rfl, rfl, rfl⟩)
  rw [if_neg d2] at h
  by_cases d3 : i = 7
  · rw [if_pos d3] at h
    cases h
    exact Or.inr (Or.inr (Or.inl ⟨d3, rfl, rfl, rfl⟩))
  rw [if_neg d3] at h
  by_cases d4 : i = 40
  · rw [if_pos d4] at h
    cases h
  rw [if_neg d4] at h
  by_cases d5 : i = 41
  · rw [if_pos d5] at h
    cases h
    exact Or.inr (Or.inr (Or.inr (Or.inl ⟨d5, rfl, rfl, rfl⟩)))
  rw [if_neg d5] at h
  by_cases d6 : i = 48
  · rw [if_pos d6] at h
    cases h
  rw [if_neg d6] at h
  by_cases d7 : i = 49
  · rw [if_pos d7] at h
    cases h
    exact Or.inr (Or.inr (Or.inr (Or.inr (Or.inl ⟨d7, rfl, rfl, rfl⟩))))
  rw [if_neg d7] at h
  by_cases d8 : i = 50
  · rw [if_pos d8] at h
    cases h
  rw [if_neg d8] at h
  by_cases d9 : i = 51
  · rw [if_pos d9] at h
    cases h
    exact Or.inr (Or.inr (Or.inr (Or.inr (Or.inr (Or.inl ⟨d9, rfl, rfl, rfl⟩)))))
  rw [if_neg d9] at h
  by_cases d10 : i = 52
  · rw [if_pos d10] at h
    cases h
  rw [if_neg d10] at h
  by_cases d11 : i = 53
  · rw [if_pos d11] at h
    cases h
    exact Or.inr (Or.inr (Or.inr (Or.inr (Or.inr (Or.inr (Or.inl ⟨d11, rfl, rfl, rfl⟩))))))
  rw [if_neg d11] at h
  by_cases d12 : i = 54
  · rw [if_pos d12] at h
    cases h
  rw [if_neg d12] at h
  by_cases d13 : i = 55
  · rw [if_pos d13] at h
    cases h
    exact Or.inr (Or.inr (Or.inr (Or.inr (Or.inr (Or.inr (Or.inr (⟨d13, rfl, rfl, rfl⟩)))))))
  rw [if_neg d13] at h
  cases h; exact absurd ht (by decide +kernel)
theorem K0_cl {L : Nat} {xs : Nat → Int32} {i : Nat} : clE nC (K0 L xs i) := by
  unfold K0
  by_cases d0 : i = 0
  · rw [if_pos d0]
    trivial
  rw [if_neg d0]
  by_cases d1 : 1 ≤ i ∧ i ≤ 5
  · rw [if_pos d1]
    intro v hv j e
    simp only [List.mem_cons, List.not_mem_nil, or_false] at hv
    rcases hv with rfl | rfl | rfl <;> cases e
  rw [if_neg d1]
  by_cases d2 : i = 6
  · rw [if_pos d2]
    trivial
  rw [if_neg d2]
  by_cases d3 : i = 7
  · rw [if_pos d3]
    trivial
  rw [if_neg d3]
  by_cases d4 : i = 40
  · rw [if_pos d4]
    intro v hv j e
    simp only [List.mem_cons, List.not_mem_nil, or_false] at hv
    rcases hv with rfl | rfl <;> cases e
    exact (by decide +kernel)
  rw [if_neg d4]
  by_cases d5 : i = 41
  · rw [if_pos d5]
    trivial
  rw [if_neg d5]
  by_cases d6 : i = 48
  · rw [if_pos d6]
    intro v hv j e
    simp only [List.mem_cons, List.not_mem_nil, or_false] at hv
    rcases hv with rfl | rfl <;> cases e
    exact (by decide +kernel)
  rw [if_neg d6]
  by_cases d7 : i = 49
  · rw [if_pos d7]
    trivial
  rw [if_neg d7]
  by_cases d8 : i = 50
  · rw [if_pos d8]
    intro v hv j e
    simp only [List.mem_cons, List.not_mem_nil, or_false] at hv
    rcases hv with rfl | rfl <;> cases e
    exact (by decide +kernel)
  rw [if_neg d8]
  by_cases d9 : i = 51
  · rw [if_pos d9]
    trivial
  rw [if_neg d9]
  by_cases d10 : i = 52
  · rw [if_pos d10]
    intro v hv j e
    simp only [List.mem_cons, List.not_mem_nil, or_false] at hv
    rcases hv with rfl | rfl <;> cases e
    exact (by decide +kernel)
  rw [if_neg d10]
  by_cases d11 : i = 53
  · rw [if_pos d11]
    trivial
  rw [if_neg d11]
  by_cases d12 : i = 54
  · rw [if_pos d12]
    intro v hv j e
    simp only [List.mem_cons, List.not_mem_nil, or_false] at hv
    rcases hv with rfl | rfl <;> cases e
    exact (by decide +kernel)
  rw [if_neg d12]
  by_cases d13 : i = 55
  · rw [if_pos d13]
    trivial
  rw [if_neg d13]
  trivial
theorem K0_kd {L : Nat} {xs : Nat → Int32} {k : Nat} (h1 : 1 ≤ k) (h2 : k ≤ 5) : KdF (K0 L xs) k := ⟨⟨h1, h2⟩, (if_neg (by omega)).trans (if_pos ⟨h1, h2⟩)⟩
theorem K0_tx {L : Nat} {xs : Nat → Int32} : TXT (K0 L xs) := ⟨⟨_, rfl, fun _ _ => rfl⟩, ⟨_, rfl, fun _ _ => rfl⟩, ⟨49, _, [], rfl, rfl, fun _ => rfl, by decide +kernel, by decide +kernel, rfl⟩, ⟨51, _, [], rfl, rfl, fun _ => rfl, by decide +kernel, by decide +kernel, rfl⟩, ⟨53, _, [], rfl, rfl, fun _ => rfl, by decide +kernel, by decide +kernel, rfl⟩, ⟨55, _, [], rfl, rfl, fun _ => rfl, by decide +kernel, by decide +kernel, rfl⟩, ⟨41, _, [], rfl, rfl, fun _ => rfl, by decide +kernel, by decide +kernel, rfl⟩⟩
theorem st_of {A : Array Value} {s : State} {F : Nat → Prop} {t : Term} {N : Nat} {b : Int32} (hN : N < 2 ^ 31) (h1 : (Cond.exactly t "java/lang/String").before A s = true) (h2 : (Cond.eq (.field t "java/lang/String" "coder" "B") (.int 0)).before A s = true) (h3 : (Cond.arrayOf (.field t "java/lang/String" "value" "[B") .byte).before A s = true) (h4 : (Cond.eq (.length (.field t "java/lang/String" "value" "[B")) (.int (Int32.ofNat N))).before A s = true) (h5 : ∀ j, j < N → (Cond.eq (.elem (.field t "java/lang/String" "value" "[B") (.int (Int32.ofNat j))) (.int b)).before A s = true) (hF : ∀ a : Nat, a < s.heap.size → ¬ F a) :
    ∃ a v : Nat, t.eval A s none [] s = some (.ref a) ∧ va_O "java/lang/String" a F s s.heap ∧ va_OF "java/lang/String" "coder" "B" (.int 0) a F s s.heap ∧ va_OF "java/lang/String" "value" "[B" (.ref v) a F s s.heap ∧ va_T .byte v N (fun _ => .int b) F s s.heap := by
  obtain ⟨a, c, cA, kA, q1, q2, q3, q4, q5, q6, -⟩ := Cond.exactly_spec (args := A) (first := s) (o := none) (s := s) (idx := []) (t := t) (cls := "java/lang/String") h1
  obtain ⟨v, hv, hT⟩ := va_Tof (f := fun _ => .int b) (A := F) hN h3 (va_eqt h4) (fun j hj => va_eqt (h5 j hj)) hF
  exact ⟨a, v, q1, ⟨cA, q3, q5, by rw [q6]; exact q2, hF a (Array.getElem?_eq_some_iff.mp q3).1⟩, vk_OFof q1 (va_eqt h2) hF, vk_OFof q1 hv hF, hT⟩
theorem ev_of {A : Array Value} {s : State} {t : Term} (h : (Cond.exactly t "java/lang/String").before A s = true) : ∃ a : Nat, t.eval A s none [] s = some (.ref a) := by
  obtain ⟨a, c, cA, kA, q1, -⟩ := Cond.exactly_spec (args := A) (first := s) (o := none) (s := s) (idx := []) (t := t) (cls := "java/lang/String") h
  exact ⟨a, q1⟩
theorem eq_of {A : Array Value} {s : State} {t u : Term} {a b : Nat} (h : (Cond.eq t u).before A s = true) (ht : t.eval A s none [] s = some (.ref a)) (hu : u.eval A s none [] s = some (.ref b)) : a = b := by
  simp [Cond.before, Cond.holds, Cond.value, ht, hu] at h
  exact h
theorem ac_of {A : Array Value} {s : State} {ty : FieldType} (h : (Cond.arrayClass ty).before A s = true) : ∃ c, ArrOfT s c ty ∧ s.vm.findClass ("[" ++ ty.toString) = some c := by
  obtain ⟨c, k, comp, f1, f2, f3⟩ := Cond.arrayClass_spec (args := A) (first := s) (o := none) (s := s) (idx := []) h
  exact ⟨c, fun N z => ⟨fun k h => (by cases h), k, f2, comp, f3⟩, f1⟩
theorem ao_of {A : Array Value} {s : State} {C : String} (h : (Cond.arrayOver (.object C)).before A s = true) : ∃ c, ArrOfT s c (.object C) ∧ va_RA s c (.object C) := by
  obtain ⟨comp, c, k, f1, -, f2, f3, f4⟩ := Cond.arrayOver_spec (args := A) (first := s) (o := none) (s := s) (idx := []) h
  exact ⟨c, fun N z => ⟨fun k h => (by cases h), k, f2, comp, f3⟩, k, comp, f2, f3, f1, f4⟩
theorem aa_of {A : Array Value} {s : State} (h : (Cond.arrayOver (.array .int)).before A s = true) : ∃ c, ArrOfT s c (.array .int) ∧ va_RA s c (.array .int) := by
  obtain ⟨comp, c, k, f1, f2, f3, f4⟩ := Cond.arrayOver_specA (args := A) (first := s) (o := none) (s := s) (idx := []) h
  exact ⟨c, fun N z => ⟨fun k h => (by cases h), k, f2, comp, f3⟩, f4⟩
theorem first_frame {p : Program} {l : Launch} {s : State} {m : MethodId} {meth : Method} {c : Code} {b L : Nat} {xs : Nat → Int32} (hst : l.stackTraces = false) (hx : p.tables.exec = Jvm.exec) (hb : c.code = code) (hr : meth.sig.returnType = ret) (hml : c.maxLocals = 7) (hown : s.vm.findClass "OverwalksLaw" = some m.cls) (hts : ∀ w ∈ lw_tbl, w.before #[Value.ref b] s = true) (hX : va_X b L xs s s.heap) (hL : L ≤ 3072) (hlk : meth.locks = false) (hn : narrow_1.before #[Value.ref b] s = true) (htb : c.exceptionTable.toList = []) :
    ∃ (G : GD), CX SR0 G ML_law p l s m #[Value.ref b] meth c (fun q => s.heap.size ≤ q) ∧ G.2.2.1 0 = b ∧ G.2.2.2 = K0 L xs := by
  have hA : ∀ a : Nat, a < s.heap.size → ¬ (fun q => s.heap.size ≤ q) a := fun a h g => absurd (Nat.lt_of_lt_of_le h g) (Nat.lt_irrefl _)
  have htt : ∀ w ∈ tables_1, w.before #[Value.ref b] s = true := fun w hw => hts w (List.mem_append_right _ (List.mem_append_left _ hw))
  have hin : ∀ C ∈ ["Overwalks$Kind", "java/lang/Integer", "java/lang/String", "java/lang/Throwable"], (Cond.initialized C).before #[Value.ref b] s = true := fun C h => htt _ (in_e C h)
  obtain ⟨aK, hE, eK⟩ := va_Enof2 (A := fun q => s.heap.size ≤ q) (F := FK) (fun i hi => htt _ (kd_l i hi)) (hin _ (by decide +kernel)) (kd_x hn) (kd_f hn) (kd_d hn) hA
  obtain ⟨dt, et, hdt⟩ := va_Tof (f := fun j => .int (Int32.ofNat (48 + j / 10))) (A := fun q => s.heap.size ≤ q) (by decide +kernel) (dg_ta hn) (va_eqt (dg_tl hn)) (fun j hj => va_eqt (dg_t hn j hj)) hA
  obtain ⟨dn, eo, hdo⟩ := va_Tof (f := fun j => .int (Int32.ofNat (48 + j % 10))) (A := fun q => s.heap.size ≤ q) (by decide +kernel) (dg_oa hn) (va_eqt (dg_ol hn)) (fun j hj => va_eqt (dg_o hn j hj)) hA
  obtain ⟨a10, e0⟩ := ev_of (sx_0 hn)
  obtain ⟨a12, e1⟩ := ev_of (sx_1 hn)
  obtain ⟨a14, e2⟩ := ev_of (sx_2 hn)
  obtain ⟨a16, e3⟩ := ev_of (sx_3 hn)
  obtain ⟨a18, e4⟩ := ev_of (sx_4 hn)
  obtain ⟨a20, e5⟩ := ev_of (sx_5 hn)
  obtain ⟨a22, e6⟩ := ev_of (sx_6 hn)
  obtain ⟨a24, e7⟩ := ev_of (sx_7 hn)
  obtain ⟨a26, e8⟩ := ev_of (sx_8 hn)
  obtain ⟨a28, e9⟩ := ev_of (sx_9 hn)
  obtain ⟨a30, e10⟩ := ev_of (sx_10 hn)
  obtain ⟨a32, e11⟩ := ev_of (sx_11 hn)
  obtain ⟨a34, e12⟩ := ev_of (sx_12 hn)
  obtain ⟨a36, e13⟩ := ev_of (sx_13 hn)
  obtain ⟨a38, e14⟩ := ev_of (sx_14 hn)
  obtain ⟨a40, v40, e20, hO40, hc40, hv40, hT40⟩ := st_of (F := fun q => s.heap.size ≤ q) (by decide +kernel) (sx_20 hn) (tx_40c hn) (tx_40a hn) (tx_40l hn) (tx_40e hn) hA
  obtain ⟨a42, e16⟩ := ev_of (sx_16 hn)
  obtain ⟨a44, e17⟩ := ev_of (sx_17 hn)
  obtain ⟨a46, e18⟩ := ev_of (sx_18 hn)
  obtain ⟨a48, v48, e19, hO48, hc48, hv48, hT48⟩ := st_of (F := fun q => s.heap.size ≤ q) (by decide +kernel) (sx_19 hn) (tx_48c hn) (tx_48a hn) (tx_48l hn) (tx_48e hn) hA
  obtain ⟨a50, v50, e21, hO50, hc50, hv50, hT50⟩ := st_of (F := fun q => s.heap.size ≤ q) (by decide +kernel) (sx_21 hn) (tx_50c hn) (tx_50a hn) (tx_50l hn) (tx_50e hn) hA
  obtain ⟨a52, v52, e22, hO52, hc52, hv52, hT52⟩ := st_of (F := fun q => s.heap.size ≤ q) (by decide +kernel) (sx_22 hn) (tx_52c hn) (tx_52a hn) (tx_52l hn) (tx_52e hn) hA
  obtain ⟨a54, v54, e23, hO54, hc54, hv54, hT54⟩ := st_of (F := fun q => s.heap.size ≤ q) (by decide +kernel) (sx_23 hn) (tx_54c hn) (tx_54a hn) (tx_54l hn) (tx_54e hn) hA
  obtain ⟨z15, e15⟩ := ev_of (sx_15 hn)
  have y15 := (eq_of (two_e hn) e15 e20).symm
  subst y15
  obtain ⟨c0, p0, q0⟩ := ac_of (htt _ ar_e.1.1)
  obtain ⟨c1, p1, q1⟩ := ac_of (htt _ ar_e.1.2.1)
  obtain ⟨c2, p2, q2⟩ := ac_of (htt _ ar_e.1.2.2)
  obtain ⟨c3, p3, q3⟩ := ao_of (htt _ ar_e.2.1)
  obtain ⟨c4, p4, q4⟩ := ao_of (htt _ ar_e.2.2.1)
  obtain ⟨c5, p5, q5⟩ := aa_of (htt _ ar_e.2.2.2)
  have hk : ∀ c : Nat, ∃ q : ClassId × (Nat → Nat), c < 7 → u_Kn s (CN c) (FT c) (FN c) q.1 q.2 := by
    intro c
    by_cases hc : c < 7
    · obtain ⟨cC, iS, h⟩ := u_known (ws := lw_tbl) (T := FT c) (N := FN c) hts (fun w hw => (List.mem_filter.mp (cls_ws hc w hw)).1) (htt _ (ni_e c hc))
      exact ⟨(cC, iS), fun _ => h⟩
    · exact ⟨(c0, fun _ => 0), fun h => absurd h hc⟩
  obtain ⟨qK, hqK⟩ := Classical.axiomOfChoice hk
  refine ⟨((fun c => (qK c).1, fun c => (qK c).2), (fun k => if k = 0 then c0 else if k = 1 then c1 else if k = 2 then c2 else if k = 3 then c3 else if k = 4 then c4 else c5), (fun k => if k = 0 then b else if k < 6 then aK (k - 1) else if k = 6 then dt else if k = 7 then dn else if k = 10 then a10 else if k = 12 then a12 else if k = 14 then a14 else if k = 16 then a16 else if k = 18 then a18 else if k = 20 then a20 else if k = 22 then a22 else if k = 24 then a24 else if k = 26 then a26 else if k = 28 then a28 else if k = 30 then a30 else if k = 32 then a32 else if k = 34 then a34 else if k = 36 then a36 else if k = 38 then a38 else if k = 40 then a40 else if k = 41 then v40 else if k = 42 then a42 else if k = 44 then a44 else if k = 46 then a46 else if k = 48 then a48 else if k = 49 then v48 else if k = 50 then a50 else if k = 51 then v50 else if k = 52 then a52 else if k = 53 then v52 else if k = 54 then a54 else if k = 55 then v54 else 0), K0 L xs), ⟨hx, hb, hr, hml, hown, fun w hw => hts w (List.mem_filter.mp hw).1, hlk, htb, hst, fun e => absurd e (by decide +kernel), ⟨?_, ?_⟩, ?_, ?_, ⟨htt _ ar_e.2.1, htt _ ar_e.2.2.1, htt _ ar_e.2.2.2, fun q hq => va_Nc.of (xp_e hn q hq)⟩, ⟨?_, ?_, ?_, vx_Zqof (htt _ ls_e.2.1) (hin _ (by decide +kernel)) (th_u hn) hA, vx_Zqof (htt _ ls_e.2.2) (hin _ (by decide +kernel)) (th_s hn) hA, ?_⟩, fun q h => h⟩, rfl, rfl⟩
  · intro c r hc
    have h7 := vwCl_lt hc
    cases Option.some.inj (hc.symm.trans (vwCl_at h7))
    exact hqK c h7
  · intro k q hk
    have h6 : k < 6 := (List.getElem?_eq_some_iff.mp hk).1
    rcases (show k = 0 ∨ k = 1 ∨ k = 2 ∨ k = 3 ∨ k = 4 ∨ k = 5 by omega) with rfl | rfl | rfl | rfl | rfl | rfl <;> cases hk
    · exact ⟨p0, q0⟩
    · exact ⟨p1, q1⟩
    · exact ⟨p2, q2⟩
    · exact ⟨p3, q3⟩
    · exact ⟨p4, q4⟩
    · exact ⟨p5, q5⟩
  · intro w hw
    obtain ⟨h1, h2⟩ := List.mem_filter.mp hw
    have h3 := hts w h1
    cases w <;> first | (simp [nwf] at h2; done) | exact va_Nw.of rfl h3
  · intro q hq
    have hw := htt _ (sr_r q hq)
    unfold SR0 at hq
    simp only [List.mem_cons, List.not_mem_nil, or_false] at hq
    rcases hq with rfl | rfl | rfl | rfl | rfl | rfl | rfl | rfl | rfl | rfl | rfl | rfl | rfl | rfl | rfl | rfl | rfl | rfl | rfl | rfl | rfl | rfl | rfl | rfl
    · exact vk_R.of hw e0
    · exact vk_R.of hw e1
    · exact vk_R.of hw e2
    · exact vk_R.of hw e3
    · exact vk_R.of hw e4
    · exact vk_R.of hw e5
    · exact vk_R.of hw e6
    · exact vk_R.of hw e7
    · exact vk_R.of hw e8
    · exact vk_R.of hw e9
    · exact vk_R.of hw e10
    · exact vk_R.of hw e11
    · exact vk_R.of hw e12
    · exact vk_R.of hw e13
    · exact vk_R.of hw e14
    · exact vk_R.of hw e15
    · exact vk_R.of hw e16
    · exact vk_R.of hw e17
    · exact vk_R.of hw e18
    · exact vk_R.of hw e19
    · exact vk_R.of hw e20
    · exact vk_R.of hw e21
    · exact vk_R.of hw e22
    · exact vk_R.of hw e23
  · intro i ci fs hi hf
    rcases K0_inr hf with ⟨hc9, rfl, rfl⟩ | ⟨hc9, rfl, rfl⟩ | ⟨hc9, rfl, rfl⟩ | ⟨hc9, rfl, rfl⟩ | ⟨hc9, rfl, rfl⟩ | ⟨hc9, rfl, rfl⟩
    · have e9 : (fun k => if k = 0 then b else if k < 6 then aK (k - 1) else if k = 6 then dt else if k = 7 then dn else if k = 10 then a10 else if k = 12 then a12 else if k = 14 then a14 else if k = 16 then a16 else if k = 18 then a18 else if k = 20 then a20 else if k = 22 then a22 else if k = 24 then a24 else if k = 26 then a26 else if k = 28 then a28 else if k = 30 then a30 else if k = 32 then a32 else if k = 34 then a34 else if k = 36 then a36 else if k = 38 then a38 else if k = 40 then a40 else if k = 41 then v40 else if k = 42 then a42 else if k = 44 then a44 else if k = 46 then a46 else if k = 48 then a48 else if k = 49 then v48 else if k = 50 then a50 else if k = 51 then v50 else if k = 52 then a52 else if k = 53 then v52 else if k = 54 then a54 else if k = 55 then v54 else 0) i = aK (i - 1) := (if_neg (by omega)).trans (if_pos (by omega))
      have h9 := hE.1 (i - 1) (by show i - 1 < 5; omega)
      show va_O (CN 7) ((fun k => if k = 0 then b else if k < 6 then aK (k - 1) else if k = 6 then dt else if k = 7 then dn else if k = 10 then a10 else if k = 12 then a12 else if k = 14 then a14 else if k = 16 then a16 else if k = 18 then a18 else if k = 20 then a20 else if k = 22 then a22 else if k = 24 then a24 else if k = 26 then a26 else if k = 28 then a28 else if k = 30 then a30 else if k = 32 then a32 else if k = 34 then a34 else if k = 36 then a36 else if k = 38 then a38 else if k = 40 then a40 else if k = 41 then v40 else if k = 42 then a42 else if k = 44 then a44 else if k = 46 then a46 else if k = 48 then a48 else if k = 49 then v48 else if k = 50 then a50 else if k = 51 then v50 else if k = 52 then a52 else if k = 53 then v52 else if k = 54 then a54 else if k = 55 then v54 else 0) i) _ _ _ ∧ ∀ (k : Nat) (v : Value), _ → va_OF _ _ _ _ ((fun k => if k = 0 then b else if k < 6 then aK (k - 1) else if k = 6 then dt else if k = 7 then dn else if k = 10 then a10 else if k = 12 then a12 else if k = 14 then a14 else if k = 16 then a16 else if k = 18 then a18 else if k = 20 then a20 else if k = 22 then a22 else if k = 24 then a24 else if k = 26 then a26 else if k = 28 then a28 else if k = 30 then a30 else if k = 32 then a32 else if k = 34 then a34 else if k = 36 then a36 else if k = 38 then a38 else if k = 40 then a40 else if k = 41 then v40 else if k = 42 then a42 else if k = 44 then a44 else if k = 46 then a46 else if k = 48 then a48 else if k = 49 then v48 else if k = 50 then a50 else if k = 51 then v50 else if k = 52 then a52 else if k = 53 then v52 else if k = 54 then a54 else if k = 55 then v54 else 0) i) _ _ _
      rw [e9]
      refine ⟨h9.2.1, fun k v hk => ?_⟩
      have h3 : k < 3 := (List.getElem?_eq_some_iff.mp hk).1
      have hq := h9.2.2
      rcases (show i = 1 ∨ i = 2 ∨ i = 3 ∨ i = 4 ∨ i = 5 by omega) with rfl | rfl | rfl | rfl | rfl <;> rcases (show k = 0 ∨ k = 1 ∨ k = 2 by omega) with rfl | rfl | rfl <;> cases hk
      · exact hq _ (List.mem_cons_self)
      · exact hq _ (List.mem_cons_of_mem _ List.mem_cons_self)
      · exact hq _ (List.mem_cons_of_mem _ (List.mem_cons_of_mem _ List.mem_cons_self))
      · exact hq _ (List.mem_cons_self)
      · exact hq _ (List.mem_cons_of_mem _ List.mem_cons_self)
      · exact hq _ (List.mem_cons_of_mem _ (List.mem_cons_of_mem _ List.mem_cons_self))
      · exact hq _ (List.mem_cons_self)
      · exact hq _ (List.mem_cons_of_mem _ List.mem_cons_self)
      · exact hq _ (List.mem_cons_of_mem _ (List.mem_cons_of_mem _ List.mem_cons_self))
      · exact hq _ (List.mem_cons_self)
      · exact hq _ (List.mem_cons_of_mem _ List.mem_cons_self)
      · exact hq _ (List.mem_cons_of_mem _ (List.mem_cons_of_mem _ List.mem_cons_self))
      · exact hq _ (List.mem_cons_self)
      · exact hq _ (List.mem_cons_of_mem _ List.mem_cons_self)
      · exact hq _ (List.mem_cons_of_mem _ (List.mem_cons_of_mem _ List.mem_cons_self))
    · subst hc9
      refine ⟨hO40, fun k v hk => ?_⟩
      have h2 : k < 2 := (List.getElem?_eq_some_iff.mp hk).1
      rcases (show k = 0 ∨ k = 1 by omega) with rfl | rfl <;> cases hk
      · exact hv40
      · exact hc40
    · subst hc9
      refine ⟨hO48, fun k v hk => ?_⟩
      have h2 : k < 2 := (List.getElem?_eq_some_iff.mp hk).1
      rcases (show k = 0 ∨ k = 1 by omega) with rfl | rfl <;> cases hk
      · exact hv48
      · exact hc48
    · subst hc9
      refine ⟨hO50, fun k v hk => ?_⟩
      have h2 : k < 2 := (List.getElem?_eq_some_iff.mp hk).1
      rcases (show k = 0 ∨ k = 1 by omega) with rfl | rfl <;> cases hk
      · exact hv50
      · exact hc50
    · subst hc9
      refine ⟨hO52, fun k v hk => ?_⟩
      have h2 : k < 2 := (List.getElem?_eq_some_iff.mp hk).1
      rcases (show k = 0 ∨ k = 1 by omega) with rfl | rfl <;> cases hk
      · exact hv52
      · exact hc52
    · subst hc9
      refine ⟨hO54, fun k v hk => ?_⟩
      have h2 : k < 2 := (List.getElem?_eq_some_iff.mp hk).1
      rcases (show k = 0 ∨ k = 1 by omega) with rfl | rfl <;> cases hk
      · exact hv54
      · exact hc54
  · intro i t n f hi hf ht
    rcases K0_inl hf ht with ⟨rfl, rfl, rfl, rfl⟩ | ⟨rfl, rfl, rfl, rfl⟩ | ⟨rfl, rfl, rfl, rfl⟩ | ⟨rfl, rfl, rfl, rfl⟩ | ⟨rfl, rfl, rfl, rfl⟩ | ⟨rfl, rfl, rfl, rfl⟩ | ⟨rfl, rfl, rfl, rfl⟩ | ⟨rfl, rfl, rfl, rfl⟩
    · obtain ⟨scr, g1, g2, g3, g4, g5⟩ := hX
      exact ⟨scr, g1, g2, g3, Nat.le_of_eq g4.symm, congrArg Nat.toInt32 g4, g5, hA _ (Array.getElem?_eq_some_iff.mp g1).1⟩
    · exact hdt
    · exact hdo
    · exact hT40
    · exact hT48
    · exact hT50
    · exact hT52
    · exact hT54
  · intro q hq
    unfold ST at hq
    simp only [List.mem_cons, List.not_mem_nil, or_false] at hq
    rcases hq with rfl | rfl | rfl | rfl | rfl | rfl | rfl | rfl
    · exact (hE.1 0 (by decide +kernel)).1
    · exact (hE.1 1 (by decide +kernel)).1
    · exact (hE.1 2 (by decide +kernel)).1
    · exact (hE.1 3 (by decide +kernel)).1
    · exact (hE.1 4 (by decide +kernel)).1
    · exact va_Zref (htt _ ls_e.1.1) (hin _ (by decide +kernel)) et hA
    · exact va_Zref (htt _ ls_e.1.2.1) (hin _ (by decide +kernel)) eo hA
    · exact va_Zof (htt _ ls_e.1.2.2) (hin _ (by decide +kernel)) (va_eqi (cs_e hn)) hA
  · intro i j h1 h2 h3 h4 e
    have ei : (fun k => if k = 0 then b else if k < 6 then aK (k - 1) else if k = 6 then dt else if k = 7 then dn else if k = 10 then a10 else if k = 12 then a12 else if k = 14 then a14 else if k = 16 then a16 else if k = 18 then a18 else if k = 20 then a20 else if k = 22 then a22 else if k = 24 then a24 else if k = 26 then a26 else if k = 28 then a28 else if k = 30 then a30 else if k = 32 then a32 else if k = 34 then a34 else if k = 36 then a36 else if k = 38 then a38 else if k = 40 then a40 else if k = 41 then v40 else if k = 42 then a42 else if k = 44 then a44 else if k = 46 then a46 else if k = 48 then a48 else if k = 49 then v48 else if k = 50 then a50 else if k = 51 then v50 else if k = 52 then a52 else if k = 53 then v52 else if k = 54 then a54 else if k = 55 then v54 else 0) i = aK (i - 1) := (if_neg (by omega)).trans (if_pos (by omega))
    have ej : (fun k => if k = 0 then b else if k < 6 then aK (k - 1) else if k = 6 then dt else if k = 7 then dn else if k = 10 then a10 else if k = 12 then a12 else if k = 14 then a14 else if k = 16 then a16 else if k = 18 then a18 else if k = 20 then a20 else if k = 22 then a22 else if k = 24 then a24 else if k = 26 then a26 else if k = 28 then a28 else if k = 30 then a30 else if k = 32 then a32 else if k = 34 then a34 else if k = 36 then a36 else if k = 38 then a38 else if k = 40 then a40 else if k = 41 then v40 else if k = 42 then a42 else if k = 44 then a44 else if k = 46 then a46 else if k = 48 then a48 else if k = 49 then v48 else if k = 50 then a50 else if k = 51 then v50 else if k = 52 then a52 else if k = 53 then v52 else if k = 54 then a54 else if k = 55 then v54 else 0) j = aK (j - 1) := (if_neg (by omega)).trans (if_pos (by omega))
    have e9 := hE.2 (i - 1) (j - 1) (by show i - 1 < 5; omega) (by show j - 1 < 5; omega) (ei.symm.trans ((show (fun k => if k = 0 then b else if k < 6 then aK (k - 1) else if k = 6 then dt else if k = 7 then dn else if k = 10 then a10 else if k = 12 then a12 else if k = 14 then a14 else if k = 16 then a16 else if k = 18 then a18 else if k = 20 then a20 else if k = 22 then a22 else if k = 24 then a24 else if k = 26 then a26 else if k = 28 then a28 else if k = 30 then a30 else if k = 32 then a32 else if k = 34 then a34 else if k = 36 then a36 else if k = 38 then a38 else if k = 40 then a40 else if k = 41 then v40 else if k = 42 then a42 else if k = 44 then a44 else if k = 46 then a46 else if k = 48 then a48 else if k = 49 then v48 else if k = 50 then a50 else if k = 51 then v50 else if k = 52 then a52 else if k = 53 then v52 else if k = 54 then a54 else if k = 55 then v54 else 0) i = (fun k => if k = 0 then b else if k < 6 then aK (k - 1) else if k = 6 then dt else if k = 7 then dn else if k = 10 then a10 else if k = 12 then a12 else if k = 14 then a14 else if k = 16 then a16 else if k = 18 then a18 else if k = 20 then a20 else if k = 22 then a22 else if k = 24 then a24 else if k = 26 then a26 else if k = 28 then a28 else if k = 30 then a30 else if k = 32 then a32 else if k = 34 then a34 else if k = 36 then a36 else if k = 38 then a38 else if k = 40 then a40 else if k = 41 then v40 else if k = 42 then a42 else if k = 44 then a44 else if k = 46 then a46 else if k = 48 then a48 else if k = 49 then v48 else if k = 50 then a50 else if k = 51 then v50 else if k = 52 then a52 else if k = 53 then v52 else if k = 54 then a54 else if k = 55 then v54 else 0) j from e).trans ej))
    omega
