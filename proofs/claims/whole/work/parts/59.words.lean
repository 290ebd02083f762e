/-! what the Statement says of the start -/
theorem bl {a b : Cond} {A : Array Value} {s : State} (h : (Cond.and a b).before A s = true) : a.before A s = true := (Bool.and_eq_true_iff.mp (by rw [← Cond.before_and]; exact h)).1
theorem br {a b : Cond} {A : Array Value} {s : State} (h : (Cond.and a b).before A s = true) : b.before A s = true := (Bool.and_eq_true_iff.mp (by rw [← Cond.before_and]; exact h)).2
def nmK : List String := ["ROW", "RISING", "KEPT", "QUEUE", "TABLE"]
def FK : List (String × String × String × List Int32) := [("Overwalks$Kind", "hasPlaces", "Z", [1, 0, 0, 0, 0]), ("Overwalks$Kind", "takesNothings", "Z", [1, 0, 1, 0, 0]), ("Overwalks$Kind", "hasEachOnce", "Z", [0, 1, 1, 0, 0])]
theorem kd_x {A : Array Value} {s : State} (h : narrow_1.before A s = true) : ∀ i, i < nmK.length → (Cond.exactly (.static "Overwalks$Kind" (nmK.getD i "") "LOverwalks$Kind;") "Overwalks$Kind").before A s = true := by
  intro i hi
  rcases (show i = 0 ∨ i = 1 ∨ i = 2 ∨ i = 3 ∨ i = 4 by have : i < 5 := hi; omega) with rfl | rfl | rfl | rfl | rfl
  · exact (br (br (bl (bl (bl (bl (bl (bl (bl (bl h))))))))))
  · exact (bl (bl (bl (br (bl (bl (bl (bl (bl (bl h))))))))))
  · exact (bl (br (br (br (bl (bl (bl (bl (bl (bl h))))))))))
  · exact (br (bl (br (bl (br (bl (bl (bl (bl (bl h))))))))))
  · exact (br (bl (br (br (br (bl (bl (bl (bl (bl h))))))))))
theorem kd_f0 {A : Array Value} {s : State} (h : narrow_1.before A s = true) : ∀ i, i < nmK.length → (Cond.eq (.field (.static "Overwalks$Kind" (nmK.getD i "") "LOverwalks$Kind;") "Overwalks$Kind" "hasPlaces" "Z") (.int (([1, 0, 0, 0, 0] : List Int32).getD i 0))).before A s = true := by
  intro i hi
  rcases (show i = 0 ∨ i = 1 ∨ i = 2 ∨ i = 3 ∨ i = 4 by have : i < 5 := hi; omega) with rfl | rfl | rfl | rfl | rfl
  · exact (br (bl (br (bl (bl (bl (bl (bl (bl (bl h))))))))))
  · exact (bl (br (bl (br (bl (bl (bl (bl (bl (bl h))))))))))
  · exact (bl (bl (bl (bl (br (bl (bl (bl (bl (bl h))))))))))
  · exact (br (br (br (bl (br (bl (bl (bl (bl (bl h))))))))))
  · exact (br (br (br (br (br (bl (bl (bl (bl (bl h))))))))))
theorem kd_f1 {A : Array Value} {s : State} (h : narrow_1.before A s = true) : ∀ i, i < nmK.length → (Cond.eq (.field (.static "Overwalks$Kind" (nmK.getD i "") "LOverwalks$Kind;") "Overwalks$Kind" "takesNothings" "Z") (.int (([1, 0, 1, 0, 0] : List Int32).getD i 0))).before A s = true := by
  intro i hi
  rcases (show i = 0 ∨ i = 1 ∨ i = 2 ∨ i = 3 ∨ i = 4 by have : i < 5 := hi; omega) with rfl | rfl | rfl | rfl | rfl
  · exact (bl (br (br (bl (bl (bl (bl (bl (bl (bl h))))))))))
  · exact (br (br (bl (br (bl (bl (bl (bl (bl (bl h))))))))))
  · exact (br (bl (bl (bl (br (bl (bl (bl (bl (bl h))))))))))
  · exact (bl (bl (bl (br (br (bl (bl (bl (bl (bl h))))))))))
  · exact (bl (bl (bl (bl (bl (br (bl (bl (bl (bl h))))))))))
theorem kd_f2 {A : Array Value} {s : State} (h : narrow_1.before A s = true) : ∀ i, i < nmK.length → (Cond.eq (.field (.static "Overwalks$Kind" (nmK.getD i "") "LOverwalks$Kind;") "Overwalks$Kind" "hasEachOnce" "Z") (.int (([0, 1, 1, 0, 0] : List Int32).getD i 0))).before A s = true := by
  intro i hi
  rcases (show i = 0 ∨ i = 1 ∨ i = 2 ∨ i = 3 ∨ i = 4 by have : i < 5 := hi; omega) with rfl | rfl | rfl | rfl | rfl
  · exact (br (br (br (bl (bl (bl (bl (bl (bl (bl h))))))))))
  · exact (bl (bl (br (br (bl (bl (bl (bl (bl (bl h))))))))))
  · exact (bl (br (bl (bl (br (bl (bl (bl (bl (bl h))))))))))
  · exact (br (bl (bl (br (br (bl (bl (bl (bl (bl h))))))))))
  · exact (br (bl (bl (bl (bl (br (bl (bl (bl (bl h))))))))))
theorem kd_f {A : Array Value} {s : State} (h : narrow_1.before A s = true) : ∀ q ∈ FK, ∀ i, i < nmK.length → (Cond.eq (.field (.static "Overwalks$Kind" (nmK.getD i "") "LOverwalks$Kind;") q.1 q.2.1 q.2.2.1) (.int (q.2.2.2.getD i 0))).before A s = true := by
  intro q hq
  rcases List.mem_cons.mp hq with rfl | hq
  · exact kd_f0 h
  rcases List.mem_cons.mp hq with rfl | hq
  · exact kd_f1 h
  rcases List.mem_singleton.mp hq with rfl
  exact kd_f2 h
theorem kd_d {A : Array Value} {s : State} (h : narrow_1.before A s = true) : ∀ i j, i < nmK.length → j < nmK.length → i ≠ j → (Cond.not (.eq (.static "Overwalks$Kind" (nmK.getD i "") "LOverwalks$Kind;") (.static "Overwalks$Kind" (nmK.getD j "") "LOverwalks$Kind;"))).before A s = true ∨ (Cond.not (.eq (.static "Overwalks$Kind" (nmK.getD j "") "LOverwalks$Kind;") (.static "Overwalks$Kind" (nmK.getD i "") "LOverwalks$Kind;"))).before A s = true := by
  intro i j hi hj hne
  rcases (show i = 0 ∨ i = 1 ∨ i = 2 ∨ i = 3 ∨ i = 4 by have : i < 5 := hi; omega) with rfl | rfl | rfl | rfl | rfl <;> rcases (show j = 0 ∨ j = 1 ∨ j = 2 ∨ j = 3 ∨ j = 4 by have : j < 5 := hj; omega) with rfl | rfl | rfl | rfl | rfl
  · exact absurd rfl hne
  · exact Or.inl (br (bl (br (br (bl (bl (bl (bl (bl (bl h))))))))))
  · exact Or.inl (br (br (bl (bl (br (bl (bl (bl (bl (bl h))))))))))
  · exact Or.inl (bl (br (bl (br (br (bl (bl (bl (bl (bl h))))))))))
  · exact Or.inl (bl (br (bl (bl (bl (br (bl (bl (bl (bl h))))))))))
  · exact Or.inr (br (bl (br (br (bl (bl (bl (bl (bl (bl h))))))))))
  · exact absurd rfl hne
  · exact Or.inl (bl (bl (br (bl (br (bl (bl (bl (bl (bl h))))))))))
  · exact Or.inl (br (br (bl (br (br (bl (bl (bl (bl (bl h))))))))))
  · exact Or.inl (br (br (bl (bl (bl (br (bl (bl (bl (bl h))))))))))
  · exact Or.inr (br (br (bl (bl (br (bl (bl (bl (bl (bl h))))))))))
  · exact Or.inr (bl (bl (br (bl (br (bl (bl (bl (bl (bl h))))))))))
  · exact absurd rfl hne
  · exact Or.inl (bl (bl (br (br (br (bl (bl (bl (bl (bl h))))))))))
  · exact Or.inl (bl (bl (br (bl (bl (br (bl (bl (bl (bl h))))))))))
  · exact Or.inr (bl (br (bl (br (br (bl (bl (bl (bl (bl h))))))))))
  · exact Or.inr (br (br (bl (br (br (bl (bl (bl (bl (bl h))))))))))
  · exact Or.inr (bl (bl (br (br (br (bl (bl (bl (bl (bl h))))))))))
  · exact absurd rfl hne
  · exact Or.inl (br (bl (br (bl (bl (br (bl (bl (bl (bl h))))))))))
  · exact Or.inr (bl (br (bl (bl (bl (br (bl (bl (bl (bl h))))))))))
  · exact Or.inr (br (br (bl (bl (bl (br (bl (bl (bl (bl h))))))))))
  · exact Or.inr (bl (bl (br (bl (bl (br (bl (bl (bl (bl h))))))))))
  · exact Or.inr (br (bl (br (bl (bl (br (bl (bl (bl (bl h))))))))))
  · exact absurd rfl hne
theorem kd_l : ∀ i, i < nmK.length → Cond.laysStatic "Overwalks$Kind" (nmK.getD i "") "LOverwalks$Kind;" ∈ tables_1 := by decide +kernel
def tmD : Term := .static "java/lang/Integer" "DigitTens" "[B"
def tmO : Term := .static "java/lang/Integer" "DigitOnes" "[B"
theorem dg_t0 {A : Array Value} {s : State} (h : narrow_1.before A s = true) : ∀ i, i < 10 → (Cond.eq (.elem tmD (.int (Int32.ofNat (0 + i)))) (.int (Int32.ofNat (48 + 0)))).before A s = true := by
  intro i hi
  rcases (show i = 0 ∨ i = 1 ∨ i = 2 ∨ i = 3 ∨ i = 4 ∨ i = 5 ∨ i = 6 ∨ i = 7 ∨ i = 8 ∨ i = 9 by omega) with rfl | rfl | rfl | rfl | rfl | rfl | rfl | rfl | rfl | rfl
  · exact (br (br (br (bl (br (bl (bl (br (bl (bl h))))))))))
  · exact (bl (bl (bl (br (br (bl (bl (br (bl (bl h))))))))))
  · exact (br (bl (bl (br (br (bl (bl (br (bl (bl h))))))))))
  · exact (bl (br (bl (br (br (bl (bl (br (bl (bl h))))))))))
  · exact (br (br (bl (br (br (bl (bl (br (bl (bl h))))))))))
  · exact (bl (bl (br (br (br (bl (bl (br (bl (bl h))))))))))
  · exact (br (bl (br (br (br (bl (bl (br (bl (bl h))))))))))
  · exact (bl (br (br (br (br (bl (bl (br (bl (bl h))))))))))
  · exact (br (br (br (br (br (bl (bl (br (bl (bl h))))))))))
  · exact (bl (bl (bl (bl (bl (br (bl (br (bl (bl h))))))))))
theorem dg_t1 {A : Array Value} {s : State} (h : narrow_1.before A s = true) : ∀ i, i < 10 → (Cond.eq (.elem tmD (.int (Int32.ofNat (10 + i)))) (.int (Int32.ofNat (48 + 1)))).before A s = true := by
  intro i hi
  rcases (show i = 0 ∨ i = 1 ∨ i = 2 ∨ i = 3 ∨ i = 4 ∨ i = 5 ∨ i = 6 ∨ i = 7 ∨ i = 8 ∨ i = 9 by omega) with rfl | rfl | rfl | rfl | rfl | rfl | rfl | rfl | rfl | rfl
  · exact (br (bl (bl (bl (bl (br (bl (br (bl (bl h))))))))))
  · exact (bl (br (bl (bl (bl (br (bl (br (bl (bl h))))))))))
  · exact (br (br (bl (bl (bl (br (bl (br (bl (bl h))))))))))
  · exact (bl (bl (br (bl (bl (br (bl (br (bl (bl h))))))))))
  · exact (br (bl (br (bl (bl (br (bl (br (bl (bl h))))))))))
  · exact (bl (br (br (bl (bl (br (bl (br (bl (bl h))))))))))
  · exact (br (br (br (bl (bl (br (bl (br (bl (bl h))))))))))
  · exact (bl (bl (bl (br (bl (br (bl (br (bl (bl h))))))))))
  · exact (br (bl (bl (br (bl (br (bl (br (bl (bl h))))))))))
  · exact (bl (br (bl (br (bl (br (bl (br (bl (bl h))))))))))
theorem dg_t2 {A : Array Value} {s : State} (h : narrow_1.before A s = true) : ∀ i, i < 10 → (Cond.eq (.elem tmD (.int (Int32.ofNat (20 + i)))) (.int (Int32.ofNat (48 + 2)))).before A s = true := by
  intro i hi
  rcases (show i = 0 ∨ i = 1 ∨ i = 2 ∨ i = 3 ∨ i = 4 ∨ i = 5 ∨ i = 6 ∨ i = 7 ∨ i = 8 ∨ i = 9 by omega) with rfl | rfl | rfl | rfl | rfl | rfl | rfl | rfl | rfl | rfl
  · exact (br (br (bl (br (bl (br (bl (br (bl (bl h))))))))))
  · exact (bl (bl (br (br (bl (br (bl (br (bl (bl h))))))))))
  · exact (br (bl (br (br (bl (br (bl (br (bl (bl h))))))))))
  · exact (bl (br (br (br (bl (br (bl (br (bl (bl h))))))))))
  · exact (br (br (br (br (bl (br (bl (br (bl (bl h))))))))))
  · exact (bl (bl (bl (bl (br (br (bl (br (bl (bl h))))))))))
  · exact (br (bl (bl (bl (br (br (bl (br (bl (bl h))))))))))
  · exact (bl (br (bl (bl (br (br (bl (br (bl (bl h))))))))))
  · exact (br (br (bl (bl (br (br (bl (br (bl (bl h))))))))))
  · exact (bl (bl (br (bl (br (br (bl (br (bl (bl h))))))))))
theorem dg_t3 {A : Array Value} {s : State} (h : narrow_1.before A s = true) : ∀ i, i < 10 → (Cond.eq (.elem tmD (.int (Int32.ofNat (30 + i)))) (.int (Int32.ofNat (48 + 3)))).before A s = true := by
  intro i hi
  rcases (show i = 0 ∨ i = 1 ∨ i = 2 ∨ i = 3 ∨ i = 4 ∨ i = 5 ∨ i = 6 ∨ i = 7 ∨ i = 8 ∨ i = 9 by omega) with rfl | rfl | rfl | rfl | rfl | rfl | rfl | rfl | rfl | rfl
  · exact (br (bl (br (bl (br (br (bl (br (bl (bl h))))))))))
  · exact (bl (br (br (bl (br (br (bl (br (bl (bl h))))))))))
  · exact (br (br (br (bl (br (br (bl (br (bl (bl h))))))))))
  · exact (bl (bl (bl (br (br (br (bl (br (bl (bl h))))))))))
  · exact (br (bl (bl (br (br (br (bl (br (bl (bl h))))))))))
  · exact (bl (br (bl (br (br (br (bl (br (bl (bl h))))))))))
  · exact (br (br (bl (br (br (br (bl (br (bl (bl h))))))))))
  · exact (bl (bl (br (br (br (br (bl (br (bl (bl h))))))))))
  · exact (br (bl (br (br (br (br (bl (br (bl (bl h))))))))))
  · exact (bl (br (br (br (br (br (bl (br (bl (bl h))))))))))
theorem dg_t4 {A : Array Value} {s : State} (h : narrow_1.before A s = true) : ∀ i, i < 10 → (Cond.eq (.elem tmD (.int (Int32.ofNat (40 + i)))) (.int (Int32.ofNat (48 + 4)))).before A s = true := by
  intro i hi
  rcases (show i = 0 ∨ i = 1 ∨ i = 2 ∨ i = 3 ∨ i = 4 ∨ i = 5 ∨ i = 6 ∨ i = 7 ∨ i = 8 ∨ i = 9 by omega) with rfl | rfl | rfl | rfl | rfl | rfl | rfl | rfl | rfl | rfl
  · exact (br (br (br (br (br (br (bl (br (bl (bl h))))))))))
  · exact (bl (bl (bl (bl (bl (bl (br (br (bl (bl h))))))))))
  · exact (br (bl (bl (bl (bl (bl (br (br (bl (bl h))))))))))
  · exact (bl (br (bl (bl (bl (bl (br (br (bl (bl h))))))))))
  · exact (br (br (bl (bl (bl (bl (br (br (bl (bl h))))))))))
  · exact (bl (bl (br (bl (bl (bl (br (br (bl (bl h))))))))))
  · exact (br (bl (br (bl (bl (bl (br (br (bl (bl h))))))))))
  · exact (bl (br (br (bl (bl (bl (br (br (bl (bl h))))))))))
  · exact (br (br (br (bl (bl (bl (br (br (bl (bl h))))))))))
  · exact (bl (bl (bl (br (bl (bl (br (br (bl (bl h))))))))))
theorem dg_t5 {A : Array Value} {s : State} (h : narrow_1.before A s = true) : ∀ i, i < 10 → (Cond.eq (.elem tmD (.int (Int32.ofNat (50 + i)))) (.int (Int32.ofNat (48 + 5)))).before A s = true := by
  intro i hi
  rcases (show i = 0 ∨ i = 1 ∨ i = 2 ∨ i = 3 ∨ i = 4 ∨ i = 5 ∨ i = 6 ∨ i = 7 ∨ i = 8 ∨ i = 9 by omega) with rfl | rfl | rfl | rfl | rfl | rfl | rfl | rfl | rfl | rfl
  · exact (br (bl (bl (br (bl (bl (br (br (bl (bl h))))))))))
  · exact (bl (br (bl (br (bl (bl (br (br (bl (bl h))))))))))
  · exact (br (br (bl (br (bl (bl (br (br (bl (bl h))))))))))
  · exact (bl (bl (br (br (bl (bl (br (br (bl (bl h))))))))))
  · exact (br (bl (br (br (bl (bl (br (br (bl (bl h))))))))))
  · exact (bl (br (br (br (bl (bl (br (br (bl (bl h))))))))))
  · exact (br (br (br (br (bl (bl (br (br (bl (bl h))))))))))
  · exact (bl (bl (bl (bl (br (bl (br (br (bl (bl h))))))))))
  · exact (br (bl (bl (bl (br (bl (br (br (bl (bl h))))))))))
  · exact (bl (br (bl (bl (br (bl (br (br (bl (bl h))))))))))
theorem dg_t6 {A : Array Value} {s : State} (h : narrow_1.before A s = true) : ∀ i, i < 10 → (Cond.eq (.elem tmD (.int (Int32.ofNat (60 + i)))) (.int (Int32.ofNat (48 + 6)))).before A s = true := by
  intro i hi
  rcases (show i = 0 ∨ i = 1 ∨ i = 2 ∨ i = 3 ∨ i = 4 ∨ i = 5 ∨ i = 6 ∨ i = 7 ∨ i = 8 ∨ i = 9 by omega) with rfl | rfl | rfl | rfl | rfl | rfl | rfl | rfl | rfl | rfl
  · exact (br (br (bl (bl (br (bl (br (br (bl (bl h))))))))))
  · exact (bl (bl (br (bl (br (bl (br (br (bl (bl h))))))))))
  · exact (br (bl (br (bl (br (bl (br (br (bl (bl h))))))))))
  · exact (bl (br (br (bl (br (bl (br (br (bl (bl h))))))))))
  · exact (br (br (br (bl (br (bl (br (br (bl (bl h))))))))))
  · exact (bl (bl (bl (br (br (bl (br (br (bl (bl h))))))))))
  · exact (br (bl (bl (br (br (bl (br (br (bl (bl h))))))))))
  · exact (bl (br (bl (br (br (bl (br (br (bl (bl h))))))))))
  · exact (br (br (bl (br (br (bl (br (br (bl (bl h))))))))))
  · exact (bl (bl (br (br (br (bl (br (br (bl (bl h))))))))))
theorem dg_t7 {A : Array Value} {s : State} (h : narrow_1.before A s = true) : ∀ i, i < 10 → (Cond.eq (.elem tmD (.int (Int32.ofNat (70 + i)))) (.int (Int32.ofNat (48 + 7)))).before A s = true := by
  intro i hi
  rcases (show i = 0 ∨ i = 1 ∨ i = 2 ∨ i = 3 ∨ i = 4 ∨ i = 5 ∨ i = 6 ∨ i = 7 ∨ i = 8 ∨ i = 9 by omega) with rfl | rfl | rfl | rfl | rfl | rfl | rfl | rfl | rfl | rfl
  · exact (br (bl (br (br (br (bl (br (br (bl (bl h))))))))))
  · exact (bl (br (br (br (br (bl (br (br (bl (bl h))))))))))
  · exact (br (br (br (br (br (bl (br (br (bl (bl h))))))))))
  · exact (bl (bl (bl (bl (bl (br (br (br (bl (bl h))))))))))
  · exact (br (bl (bl (bl (bl (br (br (br (bl (bl h))))))))))
  · exact (bl (br (bl (bl (bl (br (br (br (bl (bl h))))))))))
  · exact (br (br (bl (bl (bl (br (br (br (bl (bl h))))))))))
  · exact (bl (bl (br (bl (bl (br (br (br (bl (bl h))))))))))
  · exact (br (bl (br (bl (bl (br (br (br (bl (bl h))))))))))
  · exact (bl (br (br (bl (bl (br (br (br (bl (bl h))))))))))
theorem dg_t8 {A : Array Value} {s : State} (h : narrow_1.before A s = true) : ∀ i, i < 10 → (Cond.eq (.elem tmD (.int (Int32.ofNat (80 + i)))) (.int (Int32.ofNat (48 + 8)))).before A s = true := by
  intro i hi
  rcases (show i = 0 ∨ i = 1 ∨ i = 2 ∨ i = 3 ∨ i = 4 ∨ i = 5 ∨ i = 6 ∨ i = 7 ∨ i = 8 ∨ i = 9 by omega) with rfl | rfl | rfl | rfl | rfl | rfl | rfl | rfl | rfl | rfl
  · exact (br (br (br (bl (bl (br (br (br (bl (bl h))))))))))
  · exact (bl (bl (bl (br (bl (br (br (br (bl (bl h))))))))))
  · exact (br (bl (bl (br (bl (br (br (br (bl (bl h))))))))))
  · exact (bl (br (bl (br (bl (br (br (br (bl (bl h))))))))))
  · exact (br (br (bl (br (bl (br (br (br (bl (bl h))))))))))
  · exact (bl (bl (br (br (bl (br (br (br (bl (bl h))))))))))
  · exact (br (bl (br (br (bl (br (br (br (bl (bl h))))))))))
  · exact (bl (br (br (br (bl (br (br (br (bl (bl h))))))))))
  · exact (br (br (br (br (bl (br (br (br (bl (bl h))))))))))
  · exact (bl (bl (bl (bl (br (br (br (br (bl (bl h))))))))))
theorem dg_t9 {A : Array Value} {s : State} (h : narrow_1.before A s = true) : ∀ i, i < 10 → (Cond.eq (.elem tmD (.int (Int32.ofNat (90 + i)))) (.int (Int32.ofNat (48 + 9)))).before A s = true := by
  intro i hi
  rcases (show i = 0 ∨ i = 1 ∨ i = 2 ∨ i = 3 ∨ i = 4 ∨ i = 5 ∨ i = 6 ∨ i = 7 ∨ i = 8 ∨ i = 9 by omega) with rfl | rfl | rfl | rfl | rfl | rfl | rfl | rfl | rfl | rfl
  · exact (br (bl (bl (bl (br (br (br (br (bl (bl h))))))))))
  · exact (bl (br (bl (bl (br (br (br (br (bl (bl h))))))))))
  · exact (br (br (bl (bl (br (br (br (br (bl (bl h))))))))))
  · exact (bl (bl (br (bl (br (br (br (br (bl (bl h))))))))))
  · exact (br (bl (br (bl (br (br (br (br (bl (bl h))))))))))
  · exact (bl (br (br (bl (br (br (br (br (bl (bl h))))))))))
  · exact (br (br (br (bl (br (br (br (br (bl (bl h))))))))))
  · exact (bl (bl (bl (br (br (br (br (br (bl (bl h))))))))))
  · exact (br (bl (bl (br (br (br (br (br (bl (bl h))))))))))
  · exact (bl (br (bl (br (br (br (br (br (bl (bl h))))))))))
theorem dg_t {A : Array Value} {s : State} (h : narrow_1.before A s = true) : ∀ j, j < 100 → (Cond.eq (.elem tmD (.int (Int32.ofNat j))) (.int (Int32.ofNat (48 + j / 10)))).before A s = true := by
  intro j hj
  have hi : j % 10 < 10 := Nat.mod_lt _ (by decide +kernel)
  have e := Nat.div_add_mod j 10
  rcases (show j / 10 = 0 ∨ j / 10 = 1 ∨ j / 10 = 2 ∨ j / 10 = 3 ∨ j / 10 = 4 ∨ j / 10 = 5 ∨ j / 10 = 6 ∨ j / 10 = 7 ∨ j / 10 = 8 ∨ j / 10 = 9 by omega) with q | q | q | q | q | q | q | q | q | q
  · have k9 := dg_t0 h (j % 10) hi
    rw [show 0 + j % 10 = j by omega] at k9
    rw [q]
    exact k9
  · have k9 := dg_t1 h (j % 10) hi
    rw [show 10 + j % 10 = j by omega] at k9
    rw [q]
    exact k9
  · have k9 := dg_t2 h (j % 10) hi
    rw [show 20 + j % 10 = j by omega] at k9
    rw [q]
    exact k9
  · have k9 := dg_t3 h (j % 10) hi
    rw [show 30 + j % 10 = j by omega] at k9
    rw [q]
    exact k9
  · have k9 := dg_t4 h (j % 10) hi
    rw [show 40 + j % 10 = j by omega] at k9
    rw [q]
    exact k9
  · have k9 := dg_t5 h (j % 10) hi
    rw [show 50 + j % 10 = j by omega] at k9
    rw [q]
    exact k9
  · have k9 := dg_t6 h (j % 10) hi
    rw [show 60 + j % 10 = j by omega] at k9
    rw [q]
    exact k9
  · have k9 := dg_t7 h (j % 10) hi
    rw [show 70 + j % 10 = j by omega] at k9
    rw [q]
    exact k9
  · have k9 := dg_t8 h (j % 10) hi
    rw [show 80 + j % 10 = j by omega] at k9
    rw [q]
    exact k9
  · have k9 := dg_t9 h (j % 10) hi
    rw [show 90 + j % 10 = j by omega] at k9
    rw [q]
    exact k9
theorem dg_tl {A : Array Value} {s : State} (h : narrow_1.before A s = true) : (Cond.eq (.length tmD) (.int (Int32.ofNat 100))).before A s = true := (bl (br (br (bl (br (bl (bl (br (bl (bl h))))))))))
theorem dg_ta {A : Array Value} {s : State} (h : narrow_1.before A s = true) : (Cond.arrayOf tmD .byte).before A s = true := (br (bl (br (bl (br (bl (bl (br (bl (bl h))))))))))
theorem dg_o0 {A : Array Value} {s : State} (h : narrow_1.before A s = true) : ∀ i, i < 10 → (Cond.eq (.elem tmO (.int (Int32.ofNat (0 + i)))) (.int (Int32.ofNat (48 + i)))).before A s = true := by
  intro i hi
  rcases (show i = 0 ∨ i = 1 ∨ i = 2 ∨ i = 3 ∨ i = 4 ∨ i = 5 ∨ i = 6 ∨ i = 7 ∨ i = 8 ∨ i = 9 by omega) with rfl | rfl | rfl | rfl | rfl | rfl | rfl | rfl | rfl | rfl
  · exact (bl (bl (bl (bl (br (br (bl (bl (bl (bl h))))))))))
  · exact (br (bl (bl (bl (br (br (bl (bl (bl (bl h))))))))))
  · exact (bl (br (bl (bl (br (br (bl (bl (bl (bl h))))))))))
  · exact (br (br (bl (bl (br (br (bl (bl (bl (bl h))))))))))
  · exact (bl (bl (br (bl (br (br (bl (bl (bl (bl h))))))))))
  · exact (br (bl (br (bl (br (br (bl (bl (bl (bl h))))))))))
  · exact (bl (br (br (bl (br (br (bl (bl (bl (bl h))))))))))
  · exact (br (br (br (bl (br (br (bl (bl (bl (bl h))))))))))
  · exact (bl (bl (bl (br (br (br (bl (bl (bl (bl h))))))))))
  · exact (br (bl (bl (br (br (br (bl (bl (bl (bl h))))))))))
theorem dg_o1 {A : Array Value} {s : State} (h : narrow_1.before A s = true) : ∀ i, i < 10 → (Cond.eq (.elem tmO (.int (Int32.ofNat (10 + i)))) (.int (Int32.ofNat (48 + i)))).before A s = true := by
  intro i hi
  rcases (show i = 0 ∨ i = 1 ∨ i = 2 ∨ i = 3 ∨ i = 4 ∨ i = 5 ∨ i = 6 ∨ i = 7 ∨ i = 8 ∨ i = 9 by omega) with rfl | rfl | rfl | rfl | rfl | rfl | rfl | rfl | rfl | rfl
  · exact (bl (br (bl (br (br (br (bl (bl (bl (bl h))))))))))
  · exact (br (br (bl (br (br (br (bl (bl (bl (bl h))))))))))
  · exact (bl (bl (br (br (br (br (bl (bl (bl (bl h))))))))))
  · exact (br (bl (br (br (br (br (bl (bl (bl (bl h))))))))))
  · exact (bl (br (br (br (br (br (bl (bl (bl (bl h))))))))))
  · exact (br (br (br (br (br (br (bl (bl (bl (bl h))))))))))
  · exact (bl (bl (bl (bl (bl (bl (br (bl (bl (bl h))))))))))
  · exact (br (bl (bl (bl (bl (bl (br (bl (bl (bl h))))))))))
  · exact (bl (br (bl (bl (bl (bl (br (bl (bl (bl h))))))))))
  · exact (br (br (bl (bl (bl (bl (br (bl (bl (bl h))))))))))
theorem dg_o2 {A : Array Value} {s : State} (h : narrow_1.before A s = true) : ∀ i, i < 10 → (Cond.eq (.elem tmO (.int (Int32.ofNat (20 + i)))) (.int (Int32.ofNat (48 + i)))).before A s = true := by
  intro i hi
  rcases (show i = 0 ∨ i = 1 ∨ i = 2 ∨ i = 3 ∨ i = 4 ∨ i = 5 ∨ i = 6 ∨ i = 7 ∨ i = 8 ∨ i = 9 by omega) with rfl | rfl | rfl | rfl | rfl | rfl | rfl | rfl | rfl | rfl
  · exact (bl (bl (br (bl (bl (bl (br (bl (bl (bl h))))))))))
  · exact (br (bl (br (bl (bl (bl (br (bl (bl (bl h))))))))))
  · exact (bl (br (br (bl (bl (bl (br (bl (bl (bl h))))))))))
  · exact (br (br (br (bl (bl (bl (br (bl (bl (bl h))))))))))
  · exact (bl (bl (bl (br (bl (bl (br (bl (bl (bl h))))))))))
  · exact (br (bl (bl (br (bl (bl (br (bl (bl (bl h))))))))))
  · exact (bl (br (bl (br (bl (bl (br (bl (bl (bl h))))))))))
  · exact (br (br (bl (br (bl (bl (br (bl (bl (bl h))))))))))
  · exact (bl (bl (br (br (bl (bl (br (bl (bl (bl h))))))))))
  · exact (br (bl (br (br (bl (bl (br (bl (bl (bl h))))))))))
theorem dg_o3 {A : Array Value} {s : State} (h : narrow_1.before A s = true) : ∀ i, i < 10 → (Cond.eq (.elem tmO (.int (Int32.ofNat (30 + i)))) (.int (Int32.ofNat (48 + i)))).before A s = true := by
  intro i hi
  rcases (show i = 0 ∨ i = 1 ∨ i = 2 ∨ i = 3 ∨ i = 4 ∨ i = 5 ∨ i = 6 ∨ i = 7 ∨ i = 8 ∨ i = 9 by omega) with rfl | rfl | rfl | rfl | rfl | rfl | rfl | rfl | rfl | rfl
  · exact (bl (br (br (br (bl (bl (br (bl (bl (bl h))))))))))
  · exact (br (br (br (br (bl (bl (br (bl (bl (bl h))))))))))
  · exact (bl (bl (bl (bl (br (bl (br (bl (bl (bl h))))))))))
  · exact (br (bl (bl (bl (br (bl (br (bl (bl (bl h))))))))))
  · exact (bl (br (bl (bl (br (bl (br (bl (bl (bl h))))))))))
  · exact (br (br (bl (bl (br (bl (br (bl (bl (bl h))))))))))
  · exact (bl (bl (br (bl (br (bl (br (bl (bl (bl h))))))))))
  · exact (br (bl (br (bl (br (bl (br (bl (bl (bl h))))))))))
  · exact (bl (br (br (bl (br (bl (br (bl (bl (bl h))))))))))
  · exact (br (br (br (bl (br (bl (br (bl (bl (bl h))))))))))
theorem dg_o4 {A : Array Value} {s : State} (h : narrow_1.before A s = true) : ∀ i, i < 10 → (Cond.eq (.elem tmO (.int (Int32.ofNat (40 + i)))) (.int (Int32.ofNat (48 + i)))).before A s = true := by
  intro i hi
  rcases (show i = 0 ∨ i = 1 ∨ i = 2 ∨ i = 3 ∨ i = 4 ∨ i = 5 ∨ i = 6 ∨ i = 7 ∨ i = 8 ∨ i = 9 by omega) with rfl | rfl | rfl | rfl | rfl | rfl | rfl | rfl | rfl | rfl
  · exact (bl (bl (bl (br (br (bl (br (bl (bl (bl h))))))))))
  · exact (br (bl (bl (br (br (bl (br (bl (bl (bl h))))))))))
  · exact (bl (br (bl (br (br (bl (br (bl (bl (bl h))))))))))
  · exact (br (br (bl (br (br (bl (br (bl (bl (bl h))))))))))
  · exact (bl (bl (br (br (br (bl (br (bl (bl (bl h))))))))))
  · exact (br (bl (br (br (br (bl (br (bl (bl (bl h))))))))))
  · exact (bl (br (br (br (br (bl (br (bl (bl (bl h))))))))))
  · exact (br (br (br (br (br (bl (br (bl (bl (bl h))))))))))
  · exact (bl (bl (bl (bl (bl (br (br (bl (bl (bl h))))))))))
  · exact (br (bl (bl (bl (bl (br (br (bl (bl (bl h))))))))))
theorem dg_o5 {A : Array Value} {s : State} (h : narrow_1.before A s = true) : ∀ i, i < 10 → (Cond.eq (.elem tmO (.int (Int32.ofNat (50 + i)))) (.int (Int32.ofNat (48 + i)))).before A s = true := by
  intro i hi
  rcases (show i = 0 ∨ i = 1 ∨ i = 2 ∨ i = 3 ∨ i = 4 ∨ i = 5 ∨ i = 6 ∨ i = 7 ∨ i = 8 ∨ i = 9 by omega) with rfl | rfl | rfl | rfl | rfl | rfl | rfl | rfl | rfl | rfl
  · exact (bl (br (bl (bl (bl (br (br (bl (bl (bl h))))))))))
  · exact (br (br (bl (bl (bl (br (br (bl (bl (bl h))))))))))
  · exact (bl (bl (br (bl (bl (br (br (bl (bl (bl h))))))))))
  · exact (br (bl (br (bl (bl (br (br (bl (bl (bl h))))))))))
  · exact (bl (br (br (bl (bl (br (br (bl (bl (bl h))))))))))
  · exact (br (br (br (bl (bl (br (br (bl (bl (bl h))))))))))
  · exact (bl (bl (bl (br (bl (br (br (bl (bl (bl h))))))))))
  · exact (br (bl (bl (br (bl (br (br (bl (bl (bl h))))))))))
  · exact (bl (br (bl (br (bl (br (br (bl (bl (bl h))))))))))
  · exact (br (br (bl (br (bl (br (br (bl (bl (bl h))))))))))
theorem dg_o6 {A : Array Value} {s : State} (h : narrow_1.before A s = true) : ∀ i, i < 10 → (Cond.eq (.elem tmO (.int (Int32.ofNat (60 + i)))) (.int (Int32.ofNat (48 + i)))).before A s = true := by
  intro i hi
  rcases (show i = 0 ∨ i = 1 ∨ i = 2 ∨ i = 3 ∨ i = 4 ∨ i = 5 ∨ i = 6 ∨ i = 7 ∨ i = 8 ∨ i = 9 by omega) with rfl | rfl | rfl | rfl | rfl | rfl | rfl | rfl | rfl | rfl
  · exact (bl (bl (br (br (bl (br (br (bl (bl (bl h))))))))))
  · exact (br (bl (br (br (bl (br (br (bl (bl (bl h))))))))))
  · exact (bl (br (br (br (bl (br (br (bl (bl (bl h))))))))))
  · exact (br (br (br (br (bl (br (br (bl (bl (bl h))))))))))
  · exact (bl (bl (bl (bl (br (br (br (bl (bl (bl h))))))))))
  · exact (br (bl (bl (bl (br (br (br (bl (bl (bl h))))))))))
  · exact (bl (br (bl (bl (br (br (br (bl (bl (bl h))))))))))
  · exact (br (br (bl (bl (br (br (br (bl (bl (bl h))))))))))
  · exact (bl (bl (br (bl (br (br (br (bl (bl (bl h))))))))))
  · exact (br (bl (br (bl (br (br (br (bl (bl (bl h))))))))))
theorem dg_o7 {A : Array Value} {s : State} (h : narrow_1.before A s = true) : ∀ i, i < 10 → (Cond.eq (.elem tmO (.int (Int32.ofNat (70 + i)))) (.int (Int32.ofNat (48 + i)))).before A s = true := by
  intro i hi
  rcases (show i = 0 ∨ i = 1 ∨ i = 2 ∨ i = 3 ∨ i = 4 ∨ i = 5 ∨ i = 6 ∨ i = 7 ∨ i = 8 ∨ i = 9 by omega) with rfl | rfl | rfl | rfl | rfl | rfl | rfl | rfl | rfl | rfl
  · exact (bl (br (br (bl (br (br (br (bl (bl (bl h))))))))))
  · exact (br (br (br (bl (br (br (br (bl (bl (bl h))))))))))
  · exact (bl (bl (bl (br (br (br (br (bl (bl (bl h))))))))))
  · exact (br (bl (bl (br (br (br (br (bl (bl (bl h))))))))))
  · exact (bl (br (bl (br (br (br (br (bl (bl (bl h))))))))))
  · exact (br (br (bl (br (br (br (br (bl (bl (bl h))))))))))
  · exact (bl (bl (br (br (br (br (br (bl (bl (bl h))))))))))
  · exact (br (bl (br (br (br (br (br (bl (bl (bl h))))))))))
  · exact (bl (br (br (br (br (br (br (bl (bl (bl h))))))))))
  · exact (br (br (br (br (br (br (br (bl (bl (bl h))))))))))
theorem dg_o8 {A : Array Value} {s : State} (h : narrow_1.before A s = true) : ∀ i, i < 10 → (Cond.eq (.elem tmO (.int (Int32.ofNat (80 + i)))) (.int (Int32.ofNat (48 + i)))).before A s = true := by
  intro i hi
  rcases (show i = 0 ∨ i = 1 ∨ i = 2 ∨ i = 3 ∨ i = 4 ∨ i = 5 ∨ i = 6 ∨ i = 7 ∨ i = 8 ∨ i = 9 by omega) with rfl | rfl | rfl | rfl | rfl | rfl | rfl | rfl | rfl | rfl
  · exact (bl (bl (bl (bl (bl (bl (bl (br (bl (bl h))))))))))
  · exact (br (bl (bl (bl (bl (bl (bl (br (bl (bl h))))))))))
  · exact (bl (br (bl (bl (bl (bl (bl (br (bl (bl h))))))))))
  · exact (br (br (bl (bl (bl (bl (bl (br (bl (bl h))))))))))
  · exact (bl (bl (br (bl (bl (bl (bl (br (bl (bl h))))))))))
  · exact (br (bl (br (bl (bl (bl (bl (br (bl (bl h))))))))))
  · exact (bl (br (br (bl (bl (bl (bl (br (bl (bl h))))))))))
  · exact (br (br (br (bl (bl (bl (bl (br (bl (bl h))))))))))
  · exact (bl (bl (bl (br (bl (bl (bl (br (bl (bl h))))))))))
  · exact (br (bl (bl (br (bl (bl (bl (br (bl (bl h))))))))))
theorem dg_o9 {A : Array Value} {s : State} (h : narrow_1.before A s = true) : ∀ i, i < 10 → (Cond.eq (.elem tmO (.int (Int32.ofNat (90 + i)))) (.int (Int32.ofNat (48 + i)))).before A s = true := by
  intro i hi
  rcases (show i = 0 ∨ i = 1 ∨ i = 2 ∨ i = 3 ∨ i = 4 ∨ i = 5 ∨ i = 6 ∨ i = 7 ∨ i = 8 ∨ i = 9 by omega) with rfl | rfl | rfl | rfl | rfl | rfl | rfl | rfl | rfl | rfl
  · exact (bl (br (bl (br (bl (bl (bl (br (bl (bl h))))))))))
  · exact (br (br (bl (br (bl (bl (bl (br (bl (bl h))))))))))
  · exact (bl (bl (br (br (bl (bl (bl (br (bl (bl h))))))))))
  · exact (br (bl (br (br (bl (bl (bl (br (bl (bl h))))))))))
  · exact (bl (br (br (br (bl (bl (bl (br (bl (bl h))))))))))
  · exact (br (br (br (br (bl (bl (bl (br (bl (bl h))))))))))
  · exact (bl (bl (bl (bl (br (bl (bl (br (bl (bl h))))))))))
  · exact (br (bl (bl (bl (br (bl (bl (br (bl (bl h))))))))))
  · exact (bl (br (bl (bl (br (bl (bl (br (bl (bl h))))))))))
  · exact (br (br (bl (bl (br (bl (bl (br (bl (bl h))))))))))
theorem dg_o {A : Array Value} {s : State} (h : narrow_1.before A s = true) : ∀ j, j < 100 → (Cond.eq (.elem tmO (.int (Int32.ofNat j))) (.int (Int32.ofNat (48 + j % 10)))).before A s = true := by
  intro j hj
  have hi : j % 10 < 10 := Nat.mod_lt _ (by decide +kernel)
  have e := Nat.div_add_mod j 10
  rcases (show j / 10 = 0 ∨ j / 10 = 1 ∨ j / 10 = 2 ∨ j / 10 = 3 ∨ j / 10 = 4 ∨ j / 10 = 5 ∨ j / 10 = 6 ∨ j / 10 = 7 ∨ j / 10 = 8 ∨ j / 10 = 9 by omega) with q | q | q | q | q | q | q | q | q | q
  · have k9 := dg_o0 h (j % 10) hi
    rw [show 0 + j % 10 = j by omega] at k9
    exact k9
  · have k9 := dg_o1 h (j % 10) hi
    rw [show 10 + j % 10 = j by omega] at k9
    exact k9
  · have k9 := dg_o2 h (j % 10) hi
    rw [show 20 + j % 10 = j by omega] at k9
    exact k9
  · have k9 := dg_o3 h (j % 10) hi
    rw [show 30 + j % 10 = j by omega] at k9
    exact k9
  · have k9 := dg_o4 h (j % 10) hi
    rw [show 40 + j % 10 = j by omega] at k9
    exact k9
  · have k9 := dg_o5 h (j % 10) hi
    rw [show 50 + j % 10 = j by omega] at k9
    exact k9
  · have k9 := dg_o6 h (j % 10) hi
    rw [show 60 + j % 10 = j by omega] at k9
    exact k9
  · have k9 := dg_o7 h (j % 10) hi
    rw [show 70 + j % 10 = j by omega] at k9
    exact k9
  · have k9 := dg_o8 h (j % 10) hi
    rw [show 80 + j % 10 = j by omega] at k9
    exact k9
  · have k9 := dg_o9 h (j % 10) hi
    rw [show 90 + j % 10 = j by omega] at k9
    exact k9
theorem dg_ol {A : Array Value} {s : State} (h : narrow_1.before A s = true) : (Cond.eq (.length tmO) (.int (Int32.ofNat 100))).before A s = true := (br (br (br (br (bl (br (bl (bl (bl (bl h))))))))))
theorem dg_oa {A : Array Value} {s : State} (h : narrow_1.before A s = true) : (Cond.arrayOf tmO .byte).before A s = true := (bl (br (br (br (bl (br (bl (bl (bl (bl h))))))))))
theorem cs_e {A : Array Value} {s : State} (h : narrow_1.before A s = true) : (Cond.eq (.static "java/lang/String" "COMPACT_STRINGS" "Z") (.int 1)).before A s = true := (bl (bl (bl (br (bl (br (bl (bl (bl (bl h))))))))))
theorem th_u {A : Array Value} {s : State} (h : narrow_1.before A s = true) : (Cond.isRef (.static "java/lang/Throwable" "UNASSIGNED_STACK" "[Ljava/lang/StackTraceElement;")).before A s = true := (bl (br (br (bl (bl (br (bl (bl (bl (bl h))))))))))
theorem th_s {A : Array Value} {s : State} (h : narrow_1.before A s = true) : (Cond.isRef (.static "java/lang/Throwable" "SUPPRESSED_SENTINEL" "Ljava/util/List;")).before A s = true := (br (br (br (bl (bl (br (bl (bl (bl (bl h))))))))))
theorem xp_e {A : Array Value} {s : State} (h : narrow_1.before A s = true) : ∀ q ∈ XP, (Cond.not (.castable q.1 q.2)).before A s = true := by
  intro q hq
  unfold XP at hq
  simp only [List.mem_cons, List.not_mem_nil, or_false] at hq
  rcases hq with rfl | rfl | rfl | rfl | rfl | rfl
  · exact (bl (bl (br (br (bl (bl (bl (bl (br (bl h))))))))))
  · exact (bl (br (br (bl (br (bl (bl (bl (br (bl h))))))))))
  · exact (bl (br (bl (bl (bl (bl (bl (bl (br (bl h))))))))))
  · exact (br (br (br (bl (br (bl (bl (bl (br (bl h))))))))))
  · exact (br (br (bl (bl (bl (bl (bl (bl (br (bl h))))))))))
  · exact (br (bl (br (br (bl (bl (bl (bl (br (bl h))))))))))
theorem sx_0 {A : Array Value} {s : State} (h : narrow_1.before A s = true) : (Cond.exactly (.string "Overwalks" 304) "java/lang/String").before A s = true := (br (br (bl (bl (bl (bl (br (bl (br (bl h))))))))))
theorem sx_1 {A : Array Value} {s : State} (h : narrow_1.before A s = true) : (Cond.exactly (.string "Overwalks" 350) "java/lang/String").before A s = true := (br (bl (bl (br (br (bl (br (bl (br (bl h))))))))))
theorem sx_2 {A : Array Value} {s : State} (h : narrow_1.before A s = true) : (Cond.exactly (.string "Overwalks" 281) "java/lang/String").before A s = true := (bl (br (bl (br (bl (br (br (bl (br (bl h))))))))))
theorem sx_3 {A : Array Value} {s : State} (h : narrow_1.before A s = true) : (Cond.exactly (.string "Overwalks" 337) "java/lang/String").before A s = true := (bl (br (bl (bl (bl (bl (bl (br (br (bl h))))))))))
theorem sx_4 {A : Array Value} {s : State} (h : narrow_1.before A s = true) : (Cond.exactly (.string "Overwalks" 361) "java/lang/String").before A s = true := (bl (br (br (bl (br (bl (bl (br (br (bl h))))))))))
theorem sx_5 {A : Array Value} {s : State} (h : narrow_1.before A s = true) : (Cond.exactly (.string "Overwalks" 367) "java/lang/String").before A s = true := (bl (br (bl (br (bl (br (bl (br (br (bl h))))))))))
theorem sx_6 {A : Array Value} {s : State} (h : narrow_1.before A s = true) : (Cond.exactly (.string "Overwalks" 363) "java/lang/String").before A s = true := (br (br (br (br (bl (bl (br (br (br (bl h))))))))))
theorem sx_7 {A : Array Value} {s : State} (h : narrow_1.before A s = true) : (Cond.exactly (.string "Overwalks" 359) "java/lang/String").before A s = true := (bl (br (br (bl (bl (br (br (br (br (bl h))))))))))
theorem sx_8 {A : Array Value} {s : State} (h : narrow_1.before A s = true) : (Cond.exactly (.string "Overwalks" 346) "java/lang/String").before A s = true := (bl (bl (br (br (br (br (br (br (br (bl h))))))))))
theorem sx_9 {A : Array Value} {s : State} (h : narrow_1.before A s = true) : (Cond.exactly (.string "Overwalks" 357) "java/lang/String").before A s = true := (br (bl (bl (br (br (bl (bl (bl (bl (br h))))))))))
theorem sx_10 {A : Array Value} {s : State} (h : narrow_1.before A s = true) : (Cond.exactly (.string "Overwalks" 152) "java/lang/String").before A s = true := (br (br (bl (bl (br (br (bl (bl (bl (br h))))))))))
theorem sx_11 {A : Array Value} {s : State} (h : narrow_1.before A s = true) : (Cond.exactly (.string "Overwalks" 365) "java/lang/String").before A s = true := (bl (bl (br (bl (br (bl (br (bl (bl (br h))))))))))
theorem sx_12 {A : Array Value} {s : State} (h : narrow_1.before A s = true) : (Cond.exactly (.string "Overwalks" 175) "java/lang/String").before A s = true := (bl (br (br (bl (br (br (br (bl (bl (br h))))))))))
theorem sx_13 {A : Array Value} {s : State} (h : narrow_1.before A s = true) : (Cond.exactly (.string "Overwalks" 177) "java/lang/String").before A s = true := (br (br (br (bl (br (bl (bl (br (bl (br h))))))))))
theorem sx_14 {A : Array Value} {s : State} (h : narrow_1.before A s = true) : (Cond.exactly (.string "Overwalks" 354) "java/lang/String").before A s = true := (bl (bl (br (bl (bl (bl (br (br (bl (br h))))))))))
theorem sx_15 {A : Array Value} {s : State} (h : narrow_1.before A s = true) : (Cond.exactly (.string "Overwalks" 217) "java/lang/String").before A s = true := (bl (bl (br (br (bl (br (br (br (bl (br h))))))))))
theorem sx_16 {A : Array Value} {s : State} (h : narrow_1.before A s = true) : (Cond.exactly (.string "java/util/Arrays" 337) "java/lang/String").before A s = true := (bl (bl (bl (bl (bl (bl (bl (bl (br (br h))))))))))
theorem sx_17 {A : Array Value} {s : State} (h : narrow_1.before A s = true) : (Cond.exactly (.string "Overwalks" 348) "java/lang/String").before A s = true := (br (br (br (bl (br (bl (bl (bl (br (br h))))))))))
theorem sx_18 {A : Array Value} {s : State} (h : narrow_1.before A s = true) : (Cond.exactly (.string "Overwalks" 240) "java/lang/String").before A s = true := (bl (bl (bl (br (br (br (bl (bl (br (br h))))))))))
theorem sx_19 {A : Array Value} {s : State} (h : narrow_1.before A s = true) : (Cond.exactly (.string "OverwalksModel" 154) "java/lang/String").before A s = true := (br (bl (br (bl (bl (br (br (bl (br (br h))))))))))
theorem sx_20 {A : Array Value} {s : State} (h : narrow_1.before A s = true) : (Cond.exactly (.string "OverwalksModel" 57) "java/lang/String").before A s = true := (bl (bl (br (br (br (br (br (bl (br (br h))))))))))
theorem sx_21 {A : Array Value} {s : State} (h : narrow_1.before A s = true) : (Cond.exactly (.string "OverwalksModel" 167) "java/lang/String").before A s = true := (br (bl (br (bl (br (bl (bl (br (br (br h))))))))))
theorem sx_22 {A : Array Value} {s : State} (h : narrow_1.before A s = true) : (Cond.exactly (.string "OverwalksModel" 149) "java/lang/String").before A s = true := (br (br (br (br (bl (br (bl (br (br (br h))))))))))
theorem sx_23 {A : Array Value} {s : State} (h : narrow_1.before A s = true) : (Cond.exactly (.string "OverwalksModel" 197) "java/lang/String").before A s = true := (bl (br (bl (br (bl (bl (br (br (br (br h))))))))))
def ALS : List (String × Nat × String × Nat) → Prop
  | [] => True
  | (a, b, c, _) :: l => Cond.stringRef a b c ∈ tables_1 ∧ ALS l
theorem ALS.use : ∀ {l : List (String × Nat × String × Nat)}, ALS l → ∀ q ∈ l, Cond.stringRef q.1 q.2.1 q.2.2.1 ∈ tables_1
  | [], _, w, hw => by cases hw
  | (a, b, c, d) :: l, h, w, hw => by
    rcases List.mem_cons.mp hw with rfl | hw
    · exact h.1
    · exact ALS.use h.2 w hw
theorem sr_r : ∀ q ∈ SR0, Cond.stringRef q.1 q.2.1 q.2.2.1 ∈ tables_1 := ALS.use (l := SR0) ⟨amm_1_48.1, amm_1_90.2.2.1, amm_1_96.2.2.2.1, amm_1_126.2.2.1, amm_1_132.1, amm_1_144.2.1, amm_1_186.2.2.2.1, amm_1_228.2.2.2.2.2.1, amm_2_24.2.2.2.1, amm_2_30.2.1, amm_2_60.2.2.2.2.2.1, amm_2_102.2.2.2.1, amm_2_108.2.2.2.2.2.1, amm_2_114.1, amm_2_120.2.2.2.2.2.1, amm_2_156.2.2.2.1, amm_3_126.2.2.2.1, amm_3_204.2.1, amm_4.2.1, amm_5_102.2.1, amm_5_108.1, amm_5_114.2.2.2.2.2.1, amm_5_120.2.2.2.1, amm_5_156.2.2.2.2.2.1, trivial⟩
theorem tx_48c {A : Array Value} {s : State} (h : narrow_1.before A s = true) : (Cond.eq (.field (.string "OverwalksModel" 154) "java/lang/String" "coder" "B") (.int 0)).before A s = true := (bl (br (br (bl (bl (br (br (bl (br (br h))))))))))
theorem tx_48a {A : Array Value} {s : State} (h : narrow_1.before A s = true) : (Cond.arrayOf (.field (.string "OverwalksModel" 154) "java/lang/String" "value" "[B") .byte).before A s = true := (br (br (br (bl (bl (br (br (bl (br (br h))))))))))
theorem tx_48l {A : Array Value} {s : State} (h : narrow_1.before A s = true) : (Cond.eq (.length (.field (.string "OverwalksModel" 154) "java/lang/String" "value" "[B")) (.int (Int32.ofNat 0))).before A s = true := (bl (bl (bl (br (bl (br (br (bl (br (br h))))))))))
theorem tx_48e {A : Array Value} {s : State} (h : narrow_1.before A s = true) : ∀ j, j < 0 → (Cond.eq (.elem (.field (.string "OverwalksModel" 154) "java/lang/String" "value" "[B") (.int (Int32.ofNat j))) (.int 0)).before A s = true := by
  intro j hj
  exact absurd hj (Nat.not_lt_zero _)
theorem tx_50c {A : Array Value} {s : State} (h : narrow_1.before A s = true) : (Cond.eq (.field (.string "OverwalksModel" 167) "java/lang/String" "coder" "B") (.int 0)).before A s = true := (bl (br (br (bl (br (bl (bl (br (br (br h))))))))))
theorem tx_50a {A : Array Value} {s : State} (h : narrow_1.before A s = true) : (Cond.arrayOf (.field (.string "OverwalksModel" 167) "java/lang/String" "value" "[B") .byte).before A s = true := (br (br (br (bl (br (bl (bl (br (br (br h))))))))))
theorem tx_50l {A : Array Value} {s : State} (h : narrow_1.before A s = true) : (Cond.eq (.length (.field (.string "OverwalksModel" 167) "java/lang/String" "value" "[B")) (.int (Int32.ofNat 1))).before A s = true := (bl (bl (bl (br (br (bl (bl (br (br (br h))))))))))
theorem tx_50e {A : Array Value} {s : State} (h : narrow_1.before A s = true) : ∀ j, j < 1 → (Cond.eq (.elem (.field (.string "OverwalksModel" 167) "java/lang/String" "value" "[B") (.int (Int32.ofNat j))) (.int 32)).before A s = true := by
  intro j hj
  rcases (show j = 0 by omega) with rfl
  exact (br (bl (bl (br (br (bl (bl (br (br (br h))))))))))
theorem tx_52c {A : Array Value} {s : State} (h : narrow_1.before A s = true) : (Cond.eq (.field (.string "OverwalksModel" 149) "java/lang/String" "coder" "B") (.int 0)).before A s = true := (bl (bl (bl (bl (br (br (bl (br (br (br h))))))))))
theorem tx_52a {A : Array Value} {s : State} (h : narrow_1.before A s = true) : (Cond.arrayOf (.field (.string "OverwalksModel" 149) "java/lang/String" "value" "[B") .byte).before A s = true := (br (bl (bl (bl (br (br (bl (br (br (br h))))))))))
theorem tx_52l {A : Array Value} {s : State} (h : narrow_1.before A s = true) : (Cond.eq (.length (.field (.string "OverwalksModel" 149) "java/lang/String" "value" "[B")) (.int (Int32.ofNat 1))).before A s = true := (bl (br (bl (bl (br (br (bl (br (br (br h))))))))))
theorem tx_52e {A : Array Value} {s : State} (h : narrow_1.before A s = true) : ∀ j, j < 1 → (Cond.eq (.elem (.field (.string "OverwalksModel" 149) "java/lang/String" "value" "[B") (.int (Int32.ofNat j))) (.int 45)).before A s = true := by
  intro j hj
  rcases (show j = 0 by omega) with rfl
  exact (br (br (bl (bl (br (br (bl (br (br (br h))))))))))
theorem tx_54c {A : Array Value} {s : State} (h : narrow_1.before A s = true) : (Cond.eq (.field (.string "OverwalksModel" 197) "java/lang/String" "coder" "B") (.int 0)).before A s = true := (br (br (bl (br (bl (bl (br (br (br (br h))))))))))
theorem tx_54a {A : Array Value} {s : State} (h : narrow_1.before A s = true) : (Cond.arrayOf (.field (.string "OverwalksModel" 197) "java/lang/String" "value" "[B") .byte).before A s = true := (bl (bl (br (br (bl (bl (br (br (br (br h))))))))))
theorem tx_54l {A : Array Value} {s : State} (h : narrow_1.before A s = true) : (Cond.eq (.length (.field (.string "OverwalksModel" 197) "java/lang/String" "value" "[B")) (.int (Int32.ofNat 1))).before A s = true := (br (bl (br (br (bl (bl (br (br (br (br h))))))))))
theorem tx_54e {A : Array Value} {s : State} (h : narrow_1.before A s = true) : ∀ j, j < 1 → (Cond.eq (.elem (.field (.string "OverwalksModel" 197) "java/lang/String" "value" "[B") (.int (Int32.ofNat j))) (.int 47)).before A s = true := by
  intro j hj
  rcases (show j = 0 by omega) with rfl
  exact (bl (br (br (br (bl (bl (br (br (br (br h))))))))))
theorem tx_40c {A : Array Value} {s : State} (h : narrow_1.before A s = true) : (Cond.eq (.field (.string "OverwalksModel" 57) "java/lang/String" "coder" "B") (.int 0)).before A s = true := (br (bl (br (br (br (br (br (bl (br (br h))))))))))
theorem tx_40a {A : Array Value} {s : State} (h : narrow_1.before A s = true) : (Cond.arrayOf (.field (.string "OverwalksModel" 57) "java/lang/String" "value" "[B") .byte).before A s = true := (bl (br (br (br (br (br (br (bl (br (br h))))))))))
theorem tx_40l {A : Array Value} {s : State} (h : narrow_1.before A s = true) : (Cond.eq (.length (.field (.string "OverwalksModel" 57) "java/lang/String" "value" "[B")) (.int (Int32.ofNat 1))).before A s = true := (br (br (br (br (br (br (br (bl (br (br h))))))))))
theorem tx_40e {A : Array Value} {s : State} (h : narrow_1.before A s = true) : ∀ j, j < 1 → (Cond.eq (.elem (.field (.string "OverwalksModel" 57) "java/lang/String" "value" "[B") (.int (Int32.ofNat j))) (.int 33)).before A s = true := by
  intro j hj
  rcases (show j = 0 by omega) with rfl
  exact (bl (bl (bl (bl (bl (bl (bl (br (br (br h))))))))))
theorem two_e {A : Array Value} {s : State} (h : narrow_1.before A s = true) : (Cond.eq (.string "Overwalks" 217) (.string "OverwalksModel" 57)).before A s = true := (bl (bl (bl (bl (br (bl (bl (br (br (br h))))))))))
theorem ls_e : (Cond.laysStatic "java/lang/Integer" "DigitTens" "[B" ∈ tables_1 ∧ Cond.laysStatic "java/lang/Integer" "DigitOnes" "[B" ∈ tables_1 ∧ Cond.laysStatic "java/lang/String" "COMPACT_STRINGS" "Z" ∈ tables_1) ∧ Cond.laysStatic "java/lang/Throwable" "UNASSIGNED_STACK" "[Ljava/lang/StackTraceElement;" ∈ tables_1 ∧ Cond.laysStatic "java/lang/Throwable" "SUPPRESSED_SENTINEL" "Ljava/util/List;" ∈ tables_1 := by decide +kernel
theorem in_e : ∀ C ∈ ["Overwalks$Kind", "java/lang/Integer", "java/lang/String", "java/lang/Throwable"], Cond.initialized C ∈ tables_1 := by decide +kernel
theorem ar_e : (Cond.arrayClass .int ∈ tables_1 ∧ Cond.arrayClass .boolean ∈ tables_1 ∧ Cond.arrayClass .byte ∈ tables_1) ∧ Cond.arrayOver (.object "Overwalks$Shelf") ∈ tables_1 ∧ Cond.arrayOver (.object "Overwalks$Walk") ∈ tables_1 ∧ Cond.arrayOver (.array .int) ∈ tables_1 := by decide +kernel
def nFs : List Nat := [4, 4, 5, 9, 7, 2, 14]
theorem ni_e : ∀ c, c < 7 → Cond.instantiable (CN c) (nFs.getD c 0) ∈ tables_1 := by decide +kernel
