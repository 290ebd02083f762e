section
-- ===== PART A: goes FIRST, ahead of the names: the tables' words, and 'selects' of the private methods out of them =====
/-- a private method of a class that the tables say can be made, by its rows of tables_1 -/
def lw_okq (q : MethodName × Nat) : Prop := (q.1.cls ≠ "java/lang/invoke/MethodHandle" ∧ q.1.cls ≠ "java/lang/invoke/VarHandle") ∧ Cond.instantiable q.1.cls q.2 ∈ tables_1 ∧ Cond.privateMethod q.1 ∈ tables_1 ∧ Cond.instanceMethod q.1 ∈ tables_1
theorem lw_p0 : lw_okq (⟨"Overwalks", "giveTheSame", "(III)Z"⟩, 7) := ⟨⟨by decide +kernel, by decide +kernel⟩, List.mem_of_getElem? (i := 26) (by decide +kernel), List.mem_of_getElem? (i := 143) (by decide +kernel), List.mem_of_getElem? (i := 144) (by decide +kernel)⟩
theorem lw_p1 : lw_okq (⟨"Overwalks", "isItsList", "(I)Z"⟩, 7) := ⟨⟨by decide +kernel, by decide +kernel⟩, List.mem_of_getElem? (i := 26) (by decide +kernel), List.mem_of_getElem? (i := 171) (by decide +kernel), List.mem_of_getElem? (i := 172) (by decide +kernel)⟩
theorem lw_p2 : lw_okq (⟨"Overwalks", "isItsListBehindOneStep", "(I)Z"⟩, 7) := ⟨⟨by decide +kernel, by decide +kernel⟩, List.mem_of_getElem? (i := 26) (by decide +kernel), List.mem_of_getElem? (i := 194) (by decide +kernel), List.mem_of_getElem? (i := 195) (by decide +kernel)⟩
theorem lw_p3 : lw_okq (⟨"Overwalks", "countThings", "()I"⟩, 7) := ⟨⟨by decide +kernel, by decide +kernel⟩, List.mem_of_getElem? (i := 26) (by decide +kernel), List.mem_of_getElem? (i := 224) (by decide +kernel), List.mem_of_getElem? (i := 225) (by decide +kernel)⟩
theorem lw_p4 : lw_okq (⟨"Overwalks", "countNothings", "()I"⟩, 7) := ⟨⟨by decide +kernel, by decide +kernel⟩, List.mem_of_getElem? (i := 26) (by decide +kernel), List.mem_of_getElem? (i := 228) (by decide +kernel), List.mem_of_getElem? (i := 229) (by decide +kernel)⟩
theorem lw_p5 : lw_okq (⟨"Overwalks", "countWalks", "()I"⟩, 7) := ⟨⟨by decide +kernel, by decide +kernel⟩, List.mem_of_getElem? (i := 26) (by decide +kernel), List.mem_of_getElem? (i := 236) (by decide +kernel), List.mem_of_getElem? (i := 237) (by decide +kernel)⟩
theorem lw_p6 : lw_okq (⟨"Overwalks", "countStaleWalks", "()I"⟩, 7) := ⟨⟨by decide +kernel, by decide +kernel⟩, List.mem_of_getElem? (i := 26) (by decide +kernel), List.mem_of_getElem? (i := 243) (by decide +kernel), List.mem_of_getElem? (i := 244) (by decide +kernel)⟩
theorem lw_p7 : lw_okq (⟨"java/lang/Throwable", "fillInStackTrace", "(I)Ljava/lang/Throwable;"⟩, 6) := ⟨⟨by decide +kernel, by decide +kernel⟩, List.mem_of_getElem? (i := 286) (by decide +kernel), List.mem_of_getElem? (i := 284) (by decide +kernel), List.mem_of_getElem? (i := 285) (by decide +kernel)⟩
theorem lw_p8 : lw_okq (⟨"Overwalks", "walkAt", "(I)LOverwalks$Walk;"⟩, 7) := ⟨⟨by decide +kernel, by decide +kernel⟩, List.mem_of_getElem? (i := 26) (by decide +kernel), List.mem_of_getElem? (i := 320) (by decide +kernel), List.mem_of_getElem? (i := 321) (by decide +kernel)⟩
theorem lw_p9 : lw_okq (⟨"Overwalks", "shelfAt", "(I)LOverwalks$Shelf;"⟩, 7) := ⟨⟨by decide +kernel, by decide +kernel⟩, List.mem_of_getElem? (i := 26) (by decide +kernel), List.mem_of_getElem? (i := 365) (by decide +kernel), List.mem_of_getElem? (i := 366) (by decide +kernel)⟩
theorem lw_p10 : lw_okq (⟨"Overwalks", "refuse", "()I"⟩, 7) := ⟨⟨by decide +kernel, by decide +kernel⟩, List.mem_of_getElem? (i := 26) (by decide +kernel), List.mem_of_getElem? (i := 402) (by decide +kernel), List.mem_of_getElem? (i := 403) (by decide +kernel)⟩
theorem lw_p11 : lw_okq (⟨"Overwalks", "liftFrom", "(LOverwalks$Shelf;I)V"⟩, 7) := ⟨⟨by decide +kernel, by decide +kernel⟩, List.mem_of_getElem? (i := 26) (by decide +kernel), List.mem_of_getElem? (i := 445) (by decide +kernel), List.mem_of_getElem? (i := 446) (by decide +kernel)⟩
theorem lw_p12 : lw_okq (⟨"Overwalks", "rowAt", "(I)LOverwalks$Shelf;"⟩, 7) := ⟨⟨by decide +kernel, by decide +kernel⟩, List.mem_of_getElem? (i := 26) (by decide +kernel), List.mem_of_getElem? (i := 504) (by decide +kernel), List.mem_of_getElem? (i := 505) (by decide +kernel)⟩
theorem lw_p13 : lw_okq (⟨"Overwalks", "listAt", "(I)LOverwalks$Shelf;"⟩, 7) := ⟨⟨by decide +kernel, by decide +kernel⟩, List.mem_of_getElem? (i := 26) (by decide +kernel), List.mem_of_getElem? (i := 922) (by decide +kernel), List.mem_of_getElem? (i := 923) (by decide +kernel)⟩
theorem lw_p14 : lw_okq (⟨"OverwalksModel", "isStopped", "(ZZZ)Z"⟩, 14) := ⟨⟨by decide +kernel, by decide +kernel⟩, List.mem_of_getElem? (i := 1068) (by decide +kernel), List.mem_of_getElem? (i := 1137) (by decide +kernel), List.mem_of_getElem? (i := 1138) (by decide +kernel)⟩
theorem lw_p15 : lw_okq (⟨"OverwalksModel", "no", "()I"⟩, 14) := ⟨⟨by decide +kernel, by decide +kernel⟩, List.mem_of_getElem? (i := 1068) (by decide +kernel), List.mem_of_getElem? (i := 1147) (by decide +kernel), List.mem_of_getElem? (i := 1148) (by decide +kernel)⟩
def lw_privs_1 : List (MethodName × Nat) := [(⟨"Overwalks", "giveTheSame", "(III)Z"⟩, 7), (⟨"Overwalks", "isItsList", "(I)Z"⟩, 7), (⟨"Overwalks", "isItsListBehindOneStep", "(I)Z"⟩, 7), (⟨"Overwalks", "countThings", "()I"⟩, 7), (⟨"Overwalks", "countNothings", "()I"⟩, 7), (⟨"Overwalks", "countWalks", "()I"⟩, 7), (⟨"Overwalks", "countStaleWalks", "()I"⟩, 7), (⟨"java/lang/Throwable", "fillInStackTrace", "(I)Ljava/lang/Throwable;"⟩, 6), (⟨"Overwalks", "walkAt", "(I)LOverwalks$Walk;"⟩, 7), (⟨"Overwalks", "shelfAt", "(I)LOverwalks$Shelf;"⟩, 7), (⟨"Overwalks", "refuse", "()I"⟩, 7), (⟨"Overwalks", "liftFrom", "(LOverwalks$Shelf;I)V"⟩, 7), (⟨"Overwalks", "rowAt", "(I)LOverwalks$Shelf;"⟩, 7), (⟨"Overwalks", "listAt", "(I)LOverwalks$Shelf;"⟩, 7), (⟨"OverwalksModel", "isStopped", "(ZZZ)Z"⟩, 14), (⟨"OverwalksModel", "no", "()I"⟩, 14)]
theorem lw_r1 : ∀ q ∈ lw_privs_1, lw_okq q := List.forall_mem_cons.mpr ⟨lw_p0, List.forall_mem_cons.mpr ⟨lw_p1, List.forall_mem_cons.mpr ⟨lw_p2, List.forall_mem_cons.mpr ⟨lw_p3, List.forall_mem_cons.mpr ⟨lw_p4, List.forall_mem_cons.mpr ⟨lw_p5, List.forall_mem_cons.mpr ⟨lw_p6, List.forall_mem_cons.mpr ⟨lw_p7, List.forall_mem_cons.mpr ⟨lw_p8, List.forall_mem_cons.mpr ⟨lw_p9, List.forall_mem_cons.mpr ⟨lw_p10, List.forall_mem_cons.mpr ⟨lw_p11, List.forall_mem_cons.mpr ⟨lw_p12, List.forall_mem_cons.mpr ⟨lw_p13, List.forall_mem_cons.mpr ⟨lw_p14, List.forall_mem_cons.mpr ⟨lw_p15, fun _ h => absurd h List.not_mem_nil⟩⟩⟩⟩⟩⟩⟩⟩⟩⟩⟩⟩⟩⟩⟩⟩
theorem lw_p16 : lw_okq (⟨"OverwalksModel", "come", "(II)Z"⟩, 14) := ⟨⟨by decide +kernel, by decide +kernel⟩, List.mem_of_getElem? (i := 1068) (by decide +kernel), List.mem_of_getElem? (i := 1151) (by decide +kernel), List.mem_of_getElem? (i := 1152) (by decide +kernel)⟩
theorem lw_p17 : lw_okq (⟨"OverwalksModel", "count", "(II)I"⟩, 14) := ⟨⟨by decide +kernel, by decide +kernel⟩, List.mem_of_getElem? (i := 1068) (by decide +kernel), List.mem_of_getElem? (i := 1155) (by decide +kernel), List.mem_of_getElem? (i := 1156) (by decide +kernel)⟩
theorem lw_p18 : lw_okq (⟨"OverwalksModel", "comeAt", "(III)V"⟩, 14) := ⟨⟨by decide +kernel, by decide +kernel⟩, List.mem_of_getElem? (i := 1068) (by decide +kernel), List.mem_of_getElem? (i := 1162) (by decide +kernel), List.mem_of_getElem? (i := 1163) (by decide +kernel)⟩
theorem lw_p19 : lw_okq (⟨"OverwalksModel", "comeAll", "(I[II)I"⟩, 14) := ⟨⟨by decide +kernel, by decide +kernel⟩, List.mem_of_getElem? (i := 1068) (by decide +kernel), List.mem_of_getElem? (i := 1170) (by decide +kernel), List.mem_of_getElem? (i := 1171) (by decide +kernel)⟩
theorem lw_p20 : lw_okq (⟨"OverwalksModel", "isStopped", "(ZZ)Z"⟩, 14) := ⟨⟨by decide +kernel, by decide +kernel⟩, List.mem_of_getElem? (i := 1068) (by decide +kernel), List.mem_of_getElem? (i := 1178) (by decide +kernel), List.mem_of_getElem? (i := 1179) (by decide +kernel)⟩
theorem lw_p21 : lw_okq (⟨"OverwalksModel", "firstPlace", "(II)I"⟩, 14) := ⟨⟨by decide +kernel, by decide +kernel⟩, List.mem_of_getElem? (i := 1068) (by decide +kernel), List.mem_of_getElem? (i := 1182) (by decide +kernel), List.mem_of_getElem? (i := 1183) (by decide +kernel)⟩
theorem lw_p22 : lw_okq (⟨"OverwalksModel", "leave", "(II)V"⟩, 14) := ⟨⟨by decide +kernel, by decide +kernel⟩, List.mem_of_getElem? (i := 1068) (by decide +kernel), List.mem_of_getElem? (i := 1186) (by decide +kernel), List.mem_of_getElem? (i := 1187) (by decide +kernel)⟩
theorem lw_p23 : lw_okq (⟨"OverwalksModel", "goAt", "(II)V"⟩, 14) := ⟨⟨by decide +kernel, by decide +kernel⟩, List.mem_of_getElem? (i := 1068) (by decide +kernel), List.mem_of_getElem? (i := 1190) (by decide +kernel), List.mem_of_getElem? (i := 1191) (by decide +kernel)⟩
theorem lw_p24 : lw_okq (⟨"OverwalksModel", "isStopped", "(Z)Z"⟩, 14) := ⟨⟨by decide +kernel, by decide +kernel⟩, List.mem_of_getElem? (i := 1068) (by decide +kernel), List.mem_of_getElem? (i := 1198) (by decide +kernel), List.mem_of_getElem? (i := 1199) (by decide +kernel)⟩
theorem lw_p25 : lw_okq (⟨"OverwalksModel", "empty", "(I)V"⟩, 14) := ⟨⟨by decide +kernel, by decide +kernel⟩, List.mem_of_getElem? (i := 1068) (by decide +kernel), List.mem_of_getElem? (i := 1202) (by decide +kernel), List.mem_of_getElem? (i := 1203) (by decide +kernel)⟩
theorem lw_p26 : lw_okq (⟨"OverwalksModel", "hasNothing", "(I)Z"⟩, 14) := ⟨⟨by decide +kernel, by decide +kernel⟩, List.mem_of_getElem? (i := 1068) (by decide +kernel), List.mem_of_getElem? (i := 1214) (by decide +kernel), List.mem_of_getElem? (i := 1215) (by decide +kernel)⟩
theorem lw_p27 : lw_okq (⟨"OverwalksModel", "picture", "(II)[I"⟩, 14) := ⟨⟨by decide +kernel, by decide +kernel⟩, List.mem_of_getElem? (i := 1068) (by decide +kernel), List.mem_of_getElem? (i := 1218) (by decide +kernel), List.mem_of_getElem? (i := 1219) (by decide +kernel)⟩
theorem lw_p28 : lw_okq (⟨"OverwalksModel", "isNoPlace", "(II)Z"⟩, 14) := ⟨⟨by decide +kernel, by decide +kernel⟩, List.mem_of_getElem? (i := 1068) (by decide +kernel), List.mem_of_getElem? (i := 1226) (by decide +kernel), List.mem_of_getElem? (i := 1227) (by decide +kernel)⟩
theorem lw_p29 : lw_okq (⟨"OverwalksModel", "isUnmade", "(I)Z"⟩, 14) := ⟨⟨by decide +kernel, by decide +kernel⟩, List.mem_of_getElem? (i := 1068) (by decide +kernel), List.mem_of_getElem? (i := 1276) (by decide +kernel), List.mem_of_getElem? (i := 1277) (by decide +kernel)⟩
theorem lw_p30 : lw_okq (⟨"OverwalksModel", "isStale", "(I)Z"⟩, 14) := ⟨⟨by decide +kernel, by decide +kernel⟩, List.mem_of_getElem? (i := 1068) (by decide +kernel), List.mem_of_getElem? (i := 1280) (by decide +kernel), List.mem_of_getElem? (i := 1281) (by decide +kernel)⟩
theorem lw_p31 : lw_okq (⟨"OverwalksModel", "hasMore", "(I)Z"⟩, 14) := ⟨⟨by decide +kernel, by decide +kernel⟩, List.mem_of_getElem? (i := 1068) (by decide +kernel), List.mem_of_getElem? (i := 1284) (by decide +kernel), List.mem_of_getElem? (i := 1285) (by decide +kernel)⟩
def lw_privs_2 : List (MethodName × Nat) := [(⟨"OverwalksModel", "come", "(II)Z"⟩, 14), (⟨"OverwalksModel", "count", "(II)I"⟩, 14), (⟨"OverwalksModel", "comeAt", "(III)V"⟩, 14), (⟨"OverwalksModel", "comeAll", "(I[II)I"⟩, 14), (⟨"OverwalksModel", "isStopped", "(ZZ)Z"⟩, 14), (⟨"OverwalksModel", "firstPlace", "(II)I"⟩, 14), (⟨"OverwalksModel", "leave", "(II)V"⟩, 14), (⟨"OverwalksModel", "goAt", "(II)V"⟩, 14), (⟨"OverwalksModel", "isStopped", "(Z)Z"⟩, 14), (⟨"OverwalksModel", "empty", "(I)V"⟩, 14), (⟨"OverwalksModel", "hasNothing", "(I)Z"⟩, 14), (⟨"OverwalksModel", "picture", "(II)[I"⟩, 14), (⟨"OverwalksModel", "isNoPlace", "(II)Z"⟩, 14), (⟨"OverwalksModel", "isUnmade", "(I)Z"⟩, 14), (⟨"OverwalksModel", "isStale", "(I)Z"⟩, 14), (⟨"OverwalksModel", "hasMore", "(I)Z"⟩, 14)]
theorem lw_r2 : ∀ q ∈ lw_privs_2, lw_okq q := List.forall_mem_cons.mpr ⟨lw_p16, List.forall_mem_cons.mpr ⟨lw_p17, List.forall_mem_cons.mpr ⟨lw_p18, List.forall_mem_cons.mpr ⟨lw_p19, List.forall_mem_cons.mpr ⟨lw_p20, List.forall_mem_cons.mpr ⟨lw_p21, List.forall_mem_cons.mpr ⟨lw_p22, List.forall_mem_cons.mpr ⟨lw_p23, List.forall_mem_cons.mpr ⟨lw_p24, List.forall_mem_cons.mpr ⟨lw_p25, List.forall_mem_cons.mpr ⟨lw_p26, List.forall_mem_cons.mpr ⟨lw_p27, List.forall_mem_cons.mpr ⟨lw_p28, List.forall_mem_cons.mpr ⟨lw_p29, List.forall_mem_cons.mpr ⟨lw_p30, List.forall_mem_cons.mpr ⟨lw_p31, fun _ h => absurd h List.not_mem_nil⟩⟩⟩⟩⟩⟩⟩⟩⟩⟩⟩⟩⟩⟩⟩⟩
theorem lw_p32 : lw_okq (⟨"OverwalksModel", "give", "(I)I"⟩, 14) := ⟨⟨by decide +kernel, by decide +kernel⟩, List.mem_of_getElem? (i := 1068) (by decide +kernel), List.mem_of_getElem? (i := 1288) (by decide +kernel), List.mem_of_getElem? (i := 1289) (by decide +kernel)⟩
theorem lw_p33 : lw_okq (⟨"OverwalksModel", "noText", "()Ljava/lang/String;"⟩, 14) := ⟨⟨by decide +kernel, by decide +kernel⟩, List.mem_of_getElem? (i := 1068) (by decide +kernel), List.mem_of_getElem? (i := 1305) (by decide +kernel), List.mem_of_getElem? (i := 1306) (by decide +kernel)⟩
theorem lw_p34 : lw_okq (⟨"OverwalksModel", "left", "(I)[I"⟩, 14) := ⟨⟨by decide +kernel, by decide +kernel⟩, List.mem_of_getElem? (i := 1068) (by decide +kernel), List.mem_of_getElem? (i := 1310) (by decide +kernel), List.mem_of_getElem? (i := 1311) (by decide +kernel)⟩
theorem lw_p35 : lw_okq (⟨"OverwalksModel", "made", "(I[I)I"⟩, 14) := ⟨⟨by decide +kernel, by decide +kernel⟩, List.mem_of_getElem? (i := 1068) (by decide +kernel), List.mem_of_getElem? (i := 1334) (by decide +kernel), List.mem_of_getElem? (i := 1335) (by decide +kernel)⟩
theorem lw_p36 : lw_okq (⟨"OverwalksModel", "told", "(II)I"⟩, 14) := ⟨⟨by decide +kernel, by decide +kernel⟩, List.mem_of_getElem? (i := 1068) (by decide +kernel), List.mem_of_getElem? (i := 1422) (by decide +kernel), List.mem_of_getElem? (i := 1423) (by decide +kernel)⟩
theorem lw_p37 : lw_okq (⟨"OverwalksModel", "houseTold", "(I)I"⟩, 14) := ⟨⟨by decide +kernel, by decide +kernel⟩, List.mem_of_getElem? (i := 1068) (by decide +kernel), List.mem_of_getElem? (i := 1430) (by decide +kernel), List.mem_of_getElem? (i := 1431) (by decide +kernel)⟩
def lw_privs_3 : List (MethodName × Nat) := [(⟨"OverwalksModel", "give", "(I)I"⟩, 14), (⟨"OverwalksModel", "noText", "()Ljava/lang/String;"⟩, 14), (⟨"OverwalksModel", "left", "(I)[I"⟩, 14), (⟨"OverwalksModel", "made", "(I[I)I"⟩, 14), (⟨"OverwalksModel", "told", "(II)I"⟩, 14), (⟨"OverwalksModel", "houseTold", "(I)I"⟩, 14)]
theorem lw_r3 : ∀ q ∈ lw_privs_3, lw_okq q := List.forall_mem_cons.mpr ⟨lw_p32, List.forall_mem_cons.mpr ⟨lw_p33, List.forall_mem_cons.mpr ⟨lw_p34, List.forall_mem_cons.mpr ⟨lw_p35, List.forall_mem_cons.mpr ⟨lw_p36, List.forall_mem_cons.mpr ⟨lw_p37, fun _ h => absurd h List.not_mem_nil⟩⟩⟩⟩⟩⟩
def lw_privs : List (MethodName × Nat) := lw_privs_1 ++ (lw_privs_2 ++ (lw_privs_3))
def lw_tbl : List Cond := k2_sels lw_privs ++ tables_1
theorem lw_privs_ok : ∀ q ∈ lw_privs, lw_okq q := by
  show ∀ q ∈ lw_privs_1 ++ (lw_privs_2 ++ (lw_privs_3)), lw_okq q
  exact List.forall_mem_append.mpr ⟨lw_r1, List.forall_mem_append.mpr ⟨lw_r2, lw_r3⟩⟩
/-- arrays of arrays: the word, as a premise of its own -/
def va_AOA (t : FieldType) (U : State) : Prop := (Cond.arrayOver (.array t)).before #[] U = true
theorem va_AOA.use {t : FieldType} {A : Array Value} {U : State} (h : va_AOA t U) : (Cond.arrayOver (.array t)).before A U = true := h
end
section
/-! ===== BEGIN words of one list among another's, by their places ===== -/
theorem goodIn_r {big : List Cond} (ws : List Cond) (ps : List Nat) (hp : ws = ps.filterMap (fun i => big[i]?)) (h : ws.all goodWord = true) : GoodIn big ws := by
  intro w hw
  have h1 := List.all_eq_true.mp h w hw
  rw [hp] at hw
  obtain ⟨i, -, hi⟩ := List.mem_filterMap.mp hw
  have hm : w ∈ big := by first | exact List.mem_of_getElem? hi | exact List.getElem?_mem hi
  exact ⟨hm, good_of_word h1⟩
theorem goodIn_app {big a b : List Cond} (ha : GoodIn big a) (hb : GoodIn big b) : GoodIn big (a ++ b) := fun w h => (List.mem_append.mp h).elim (ha w) (hb w)
theorem goodIn_ca {big a b : List Cond} {c : Cond} (ha : GoodIn big (c :: a)) (hb : GoodIn big b) : GoodIn big (c :: (a ++ b)) := fun w h => (List.mem_cons.mp h).elim (fun e => ha w (List.mem_cons.mpr (Or.inl e))) (fun h => (List.mem_append.mp h).elim (fun h => ha w (List.mem_cons.mpr (Or.inr h))) (hb w))
theorem goodIn_sub {big ws : List Cond} (hm : ∀ w ∈ ws, w ∈ big) (h : ws.all goodWord = true) : GoodIn big ws := fun w hw => ⟨hm w hw, good_of_word (List.all_eq_true.mp h w hw)⟩
/-! ===== END ===== -/

/-! ===== BEGIN new T[n][m]: the outer array a place, the inner ones among the pooled ===== -/
/-- f, but v at every address of l -/
def vr_up {α : Type} (f : Nat → α) (l : List Nat) (v : α) : Nat → α := fun a => if a ∈ l then v else f a
theorem vr_up_in {α : Type} {f : Nat → α} {l : List Nat} {v : α} {a : Nat} (h : a ∈ l) : vr_up f l v a = v := if_pos h
theorem vr_up_ne {α : Type} {f : Nat → α} {l : List Nat} {v : α} {a : Nat} (h : a ∉ l) : vr_up f l v a = f a := if_neg h
theorem vr_rows {L l : List Nat} {f : Nat → va_E} {e : va_E} (h : ∀ a, a ∈ l → a ∉ L) : va_pl L f ++ l.map (fun a => (a, e)) = va_pl (L ++ l) (vr_up f l e) := by
  unfold va_pl
  rw [List.map_append]
  congr 1
  · apply List.map_congr_left
    intro a ha
    rw [vr_up_ne (fun q => h a q ha)]
  · apply List.map_congr_left
    intro a ha
    rw [vr_up_in ha]
theorem vr_lay {X rows : va_W} {x : Nat × va_E} {pl : va_W} {D : va_G} {cl : List vw_C} {H : Heap} (hP : va_P D cl (((X ++ pl) ++ [x]) ++ rows) H) : va_P D cl ((X ++ [x]) ++ (pl ++ rows)) H := by
  rw [List.append_assoc (X ++ pl)] at hP
  have h := va_P.swap hP
  rw [← List.append_assoc X] at h
  have h2 := va_P.swap h
  rw [List.append_assoc (X ++ [x])] at h2
  exact h2
theorem vr_layD {X rows : va_W} {x : Nat × va_E} {pl : va_W} {A : Nat → Prop} (hD : va_D A (((X ++ pl) ++ [x]) ++ rows)) : va_D A ((X ++ [x]) ++ (pl ++ rows)) := by
  rw [List.append_assoc (X ++ pl)] at hD
  have h := va_D.swap hD
  rw [← List.append_assoc X] at h
  have h2 := va_D.swap h
  rw [List.append_assoc (X ++ [x])] at h2
  exact h2
theorem vr_outer (c : ClassId) (N h0 : Nat) : ∀ i : Nat, Jvm.Free.Multi.outerC c N h0 i = arrV c N (fun j => va_rf (if j < i then some (h0 + 1 + j) else none))
  | 0 => by
    show ({ cls := c, slots := Array.replicate N .null, vm := .none } : Cell) = _
    rw [arrV_new]
    refine congrArg (arrV c N) (funext fun j => ?_)
    simp [va_rf]
  | i + 1 => by
    show (Jvm.Free.Multi.outerC c N h0 i).setSlot i (.ref (h0 + 1 + i)) = _
    rw [vr_outer c N h0 i, arrV_store]
    refine congrArg (arrV c N) (funext fun j => ?_)
    by_cases e : j = i
    · subst e
      simp [updV, va_rf]
    · by_cases h : j < i
      · simp [updV, e, h, Nat.lt_succ_of_lt h]
      · simp [updV, e, h, show ¬ j < i + 1 by omega]
section VGM
variable {p : Program} {l : Launch} {e : Env} {R : Room} {s : State} {m : MethodId} {args : Array Value} {below : List Frame} {meth : Method} {c : Code} {H : Heap} {locs : List Loc} {cells slots : Nat} {Q : State → Prop}
variable {cc : ByteArray} {pc : Nat} {ls : Array Slot} {rest : List Value} {D : va_G} {cl : List vw_C} {A : Nat → Prop} {a : Nat} {tys : List (ClassId × FieldType)} {ws : va_W} {H0 : Heap}
theorem va_mna {X : va_W} {L : List Nat} {f : Nat → va_E} {cc : ByteArray} (hexec : p.tables.exec = Jvm.exec) (hb : c.code = cc) {own : String} {index : Nat} {ty : FieldType} {cy : ClassId} (hown : s.vm.findClass own = some m.cls) (hclink : (Cond.classLink own index ("[" ++ (FieldType.array ty).toString)).before args s = true) (hover : va_AOA ty s) (harr : (Cond.arrayClass ty).before args s = true) (hcy : s.vm.findClass (FieldType.array ty).toString = some cy)
    (hK : va_K D cl tys s) (hP : va_P D cl (X ++ va_pl L f) H) (hD : va_D A (X ++ va_pl L f)) (hS : va_S A H0 H locs) (hA : ∀ q, H0.size ≤ q → A q) {n k : Int32} {N' K' : Nat} {z : vp_A} (hn : ¬ n < 0) (hk : ¬ k < 0) (hN : n.toNatClampNeg = N') (hM : k.toNatClampNeg = K')
    (hb1 : N' * 4 ≤ 536870912) (hb2 : K' * componentBytes ty ≤ 536870912) (hb3 : K' ≤ 536870912) (hdf : fits ty (defaultValue ty) = true) (hdd : (defaultValue ty).isDefault = true) (hcells : cells + (1 + N') ≤ R.cells) (hslots : slots + (N' + N' * K') ≤ R.slots) (hz : ∀ c : ClassId, Jvm.Free.Multi.innerC c K' (defaultValue ty) = vp_cell c z) (hdg : decode cc pc = .ok (.multianewarray index 2, 4))
    (kk : ∀ (q : Nat) (r : Nat → Nat) (cA : ClassId) (H1 : Heap), (∀ i j : Nat, i < N' → j < N' → r i = r j → i = j) → (∀ i : Nat, i < N' → r i ∉ L) → va_K D cl (tys ++ [(cA, .array ty)]) s →
      va_P D cl ((X ++ [(q, .inl (cA, N', .inr (.inr (.inr (.inr (fun i => if i < N' then some (r i) else none))))))]) ++ va_pl (L ++ (List.range N').map r) (vr_up f ((List.range N').map r) (.inl (cy, z)))) H1 → va_D A ((X ++ [(q, .inl (cA, N', .inr (.inr (.inr (.inr (fun i => if i < N' then some (r i) else none))))))]) ++ va_pl (L ++ (List.range N').map r) (vr_up f ((List.range N').map r) (.inl (cy, z)))) → va_S A H0 H1 locs →
      W p l e R s m args below meth c H1 locs (cells + 1 + N') (slots + N' + N' * K') Q (F0 m (pc + 4) ls (.ref q :: rest))) : W p l e R s m args below meth c H locs cells slots Q (F0 m pc ls (.int k :: .int n :: rest)) := by
  subst hN
  subst hM
  intro T hT Xs
  obtain ⟨vm₁, cA, comp, -, fA, fC, hO, -, X', step⟩ := Xs.multianewarray2F hexec hown hclink (va_AOA.use hover) harr (g := F0 m pc ls (.int k :: .int n :: rest)) rfl (by rw [hb]; exact hdg) rfl hn hk hb1 hb2 hb3 hdf hdd hcells hslots
  have ec : some cy = some comp := hcy.symm.trans fC
  cases ec
  generalize hF : Jvm.Free.Multi.fill (T.setVm vm₁) cA cy n.toNatClampNeg k.toNatClampNeg (defaultValue ty) n.toNatClampNeg = F at X' step
  have hTh : (T.setVm vm₁).heap = H := hT
  obtain ⟨f1, f2, -, -⟩ := Jvm.Free.Multi.fill_facts (T.setVm vm₁) cA cy n.toNatClampNeg k.toNatClampNeg (defaultValue ty) n.toNatClampNeg
  rw [hF, hTh] at f1 f2
  have hold : ∀ x : Nat, x < H.size → F.heap[x]? = H[x]? := fun x hx => by
    have := Jvm.Free.Multi.fill_old (T.setVm vm₁) cA cy n.toNatClampNeg k.toNatClampNeg (defaultValue ty) (a := x) (by rw [hTh]; exact hx) n.toNatClampNeg
    rw [hF, hTh] at this
    exact this
  have hrow : ∀ j : Nat, j < n.toNatClampNeg → F.heap[H.size + 1 + j]? = some (vp_cell cy z) := fun j hj => by
    have := Jvm.Free.Multi.fill_inner (T.setVm vm₁) cA cy n.toNatClampNeg k.toNatClampNeg (defaultValue ty) n.toNatClampNeg j hj
    rw [hF, hTh, hz] at this
    exact this
  have hout : Jvm.Free.Multi.outerC cA n.toNatClampNeg H.size n.toNatClampNeg = vp_cell cA (n.toNatClampNeg, .inr (.inr (.inr (.inr (fun i => if i < n.toNatClampNeg then some (H.size + 1 + i) else none))))) := by
    rw [vp_cell_q]
    exact vr_outer cA n.toNatClampNeg H.size n.toNatClampNeg
  rw [hout] at f2
  have hlt : ∀ a, a ∈ L → a < H.size := fun a ha => by
    obtain ⟨k9, hk9⟩ := va_pl_get (X := X) (f := f) ha
    exact (hP k9 _ hk9).lt
  have hnl : ∀ i : Nat, i < n.toNatClampNeg → H.size + 1 + i ∉ L := fun i _ h => by
    have := hlt _ h
    omega
  have hnm : ∀ a, a ∈ (List.range n.toNatClampNeg).map (fun i => H.size + 1 + i) → a ∉ L := fun a ha h => by
    obtain ⟨i, -, rfl⟩ := List.mem_map.mp ha
    have := hlt _ h
    omega
  have hP0 : va_P D cl (X ++ va_pl L f) F.heap := hP.kept (fun k9 x hx => hold x.1 ((hP k9 x hx).lt))
  have hP1 : va_P D cl ((X ++ va_pl L f) ++ [(H.size, .inl (cA, n.toNatClampNeg, .inr (.inr (.inr (.inr (fun i => if i < n.toNatClampNeg then some (H.size + 1 + i) else none))))))]) F.heap := hP0.app (fun k9 x hx => by
    have h0 : k9 < 1 := (List.getElem?_eq_some_iff.mp hx).1
    rw [show k9 = 0 by omega] at hx
    cases hx
    exact f2)
  have hP2 : va_P D cl (((X ++ va_pl L f) ++ [(H.size, .inl (cA, n.toNatClampNeg, .inr (.inr (.inr (.inr (fun i => if i < n.toNatClampNeg then some (H.size + 1 + i) else none))))))]) ++ ((List.range n.toNatClampNeg).map (fun i => H.size + 1 + i)).map (fun a => (a, .inl (cy, z)))) F.heap := hP1.app (fun k9 x hx => by
    obtain ⟨a, ha, rfl⟩ := List.mem_map.mp (List.mem_of_getElem? hx)
    obtain ⟨i, hi, rfl⟩ := List.mem_map.mp ha
    exact hrow i (List.mem_range.mp hi))
  have hD2 : va_D A (((X ++ va_pl L f) ++ [(H.size, .inl (cA, n.toNatClampNeg, .inr (.inr (.inr (.inr (fun i => if i < n.toNatClampNeg then some (H.size + 1 + i) else none))))))]) ++ ((List.range n.toNatClampNeg).map (fun i => H.size + 1 + i)).map (fun a => (a, .inl (cy, z)))) := by
    have hD1 := hD.push (e := .inl (cA, n.toNatClampNeg, .inr (.inr (.inr (.inr (fun i => if i < n.toNatClampNeg then some (H.size + 1 + i) else none)))))) hP rfl (hA _ hS.1)
    generalize hW1 : (X ++ va_pl L f) ++ [(H.size, .inl (cA, n.toNatClampNeg, .inr (.inr (.inr (.inr (fun i => if i < n.toNatClampNeg then some (H.size + 1 + i) else none))))))] = W1 at hD1 hP1 ⊢
    have hle : ∀ (k9 : Nat) (x : Nat × va_E), W1[k9]? = some x → x.1 ≤ H.size := fun k9 x hx => by
      rw [← hW1] at hx
      by_cases hl : k9 < (X ++ va_pl L f).length
      · rw [List.getElem?_append_left hl] at hx
        exact Nat.le_of_lt ((hP k9 x hx).lt)
      · rw [List.getElem?_append_right (by omega)] at hx
        have h0 : k9 - (X ++ va_pl L f).length < 1 := (List.getElem?_eq_some_iff.mp hx).1
        rw [show k9 - (X ++ va_pl L f).length = 0 by omega] at hx
        cases hx
        exact Nat.le_refl _
    have hr : ∀ (k9 : Nat) (x : Nat × va_E), (((List.range n.toNatClampNeg).map (fun i => H.size + 1 + i)).map (fun a => ((a, .inl (cy, z)) : Nat × va_E)))[k9]? = some x → x.1 = H.size + 1 + k9 := fun k9 x hx => by
      rw [List.getElem?_map, List.getElem?_map] at hx
      by_cases h9 : k9 < n.toNatClampNeg
      · rw [List.getElem?_range h9] at hx
        cases hx
        rfl
      · have hn0 : (List.range n.toNatClampNeg)[k9]? = none := List.getElem?_eq_none (by rw [List.length_range]; omega)
        rw [hn0] at hx
        cases hx
    refine ⟨fun i j x y hi hj hxy => ?_, fun k9 x hx => ?_⟩
    · by_cases h1 : i < W1.length <;> by_cases h2 : j < W1.length
      · rw [List.getElem?_append_left h1] at hi
        rw [List.getElem?_append_left h2] at hj
        exact hD1.1 i j x y hi hj hxy
      · rw [List.getElem?_append_left h1] at hi
        rw [List.getElem?_append_right (by omega)] at hj
        have := hle _ _ hi
        have := hr _ _ hj
        omega
      · rw [List.getElem?_append_right (by omega)] at hi
        rw [List.getElem?_append_left h2] at hj
        have := hle _ _ hj
        have := hr _ _ hi
        omega
      · rw [List.getElem?_append_right (by omega)] at hi hj
        have := hr _ _ hi
        have := hr _ _ hj
        omega
    · by_cases h1 : k9 < W1.length
      · rw [List.getElem?_append_left h1] at hx
        exact hD1.2 k9 x hx
      · rw [List.getElem?_append_right (by omega)] at hx
        have := hr _ _ hx
        exact hA _ (by have := hS.1; omega)
  have hAr : ArrOfT s cA (.array ty) := fun N9 z9 => by
    obtain ⟨-, k9, hk9, cm9, hkk9⟩ := (hO 0 0 0).1
    exact ⟨(fun q hq => by cases hq), k9, hk9, cm9, hkk9⟩
  have hK2 : va_K D cl (tys ++ [(cA, .array ty)]) s := ⟨hK.1, fun k9 x hx => by
    by_cases hl : k9 < tys.length
    · rw [List.getElem?_append_left hl] at hx
      exact hK.2 k9 x hx
    · rw [List.getElem?_append_right (by omega)] at hx
      have h0 : k9 - tys.length < 1 := (List.getElem?_eq_some_iff.mp hx).1
      rw [show k9 - tys.length = 0 by omega] at hx
      cases hx
      exact ⟨hAr, fA⟩⟩
  obtain ⟨t, a1, b1⟩ := kk H.size (fun i => H.size + 1 + i) cA F.heap (fun i j _ _ h => by have h9 : H.size + 1 + i = H.size + 1 + j := h; omega) hnl hK2 (by rw [← vr_rows hnm]; exact vr_lay hP2) (by rw [← vr_rows hnm]; exact vr_layD hD2) ⟨by rw [f1]; have := hS.1; omega, fun x h1 h2 => (hold x (Nat.lt_of_lt_of_le h1 hS.1)).trans (hS.2.1 x h1 h2), hS.2.2⟩ F rfl X'
  refine ⟨t, step t ?_, b1⟩
  have e : T.heap.size = H.size := by rw [hT]
  rw [e]
  exact a1
end VGM
/-! ===== END ===== -/

/-! ===== BEGIN exceptions that leave a method, and their catching by the caller (launches without stack traces) ===== -/
section VXA
/-! The laws vx_back, vx_callV, vx_callS, vx_callSW, vx_throw0, vx_throwS follow proofs of the library, with one case more: JvmDerived/Free/Laws.lean (Back.of_free), Shelf42/LK1.lean (callV, callS), Shelf/KitTraced.lean (throwNew0V, throwNewS). -/
/-- where a method has thrown q: the class by its name, the cell, what was written, the world -/
def vx_T (XC : String → State → State → Prop) (st : State) (q : Addr) (t : State) (mc ms : Nat) (free : Addr → Prop) : Prop :=
  ∃ (E : String) (ce : Cell) (L : List Loc), XC E st t ∧ t.heap[q]? = some ce ∧ ce.vm = .none ∧ st.vm.findClass E = some ce.cls ∧ st.WarmedH t.vm ∧ st.sameButNew ({ t with vm := st.vm } : State) L mc ms ∧ ∀ z ∈ L, free z.base
def vx_Q (Qc : Array Value → State → Outcome → State → Prop) (XC : String → State → State → Prop) (mc ms : Nat) (free : Addr → Prop) : Array Value → State → Outcome → State → Prop := fun a st o t =>
  (Qc a st o t ∧ ∃ L, FrameEnd st o t L mc ms ∧ ∀ q ∈ L, free q.base) ∨ ∃ q, o = .threw q ∧ vx_T XC st q t mc ms free
/-- a callee that returns or throws -/
def vx_Met (l : Launch) (y : MethodName) (ws : List Cond) (rm : Room) (Pc : Array Value → State → Prop) (Qc : Array Value → State → Outcome → State → Prop) (XC : String → State → State → Prop) (mc ms : Nat) (free : Addr → Prop) : Prop :=
  MetFree l y (headSpec ws rm) Pc (fun _ _ _ _ _ => True) (vx_Q Qc XC mc ms free)
def vx_Post (XC : String → State → State → Prop) (mc ms : Nat) (free : Addr → Prop) : Pt → Array Value → Addr → Pt → Prop := fun A a q B =>
  ∃ (g : JFrame) (mk : MethodId) (t : State) (L : List Loc) (E : String) (ce : Cell), B.U.heap = t.heap ∧ B.U.vm = t.vm ∧ XC E (A.U.calling g mk a) t ∧ t.heap[q]? = some ce ∧ ce.vm = .none ∧ A.U.vm.findClass E = some ce.cls ∧ B.locs = A.locs ++ L ∧ (∀ z ∈ L, free z.base) ∧ B.cells = A.cells + mc ∧ B.slots = A.slots + ms
def vx_Back (l : Launch) (R : Room) (p : Program) (e : Env) (below : List Frame) (s : State) (sargs : Array Value) (y : MethodName) (len W9 : Nat)
    (Pre : Pt → Array Value → Prop) (Post : Pt → Array Value → Option Value → Pt → Prop) (PostX : Pt → Array Value → Addr → Pt → Prop) : Prop :=
  ∀ (m : MethodId) (meth : Method) (c : Code) (A : Pt) (g : JFrame) (ig : Instr) (mk : MethodId) (a : Array Value),
    Stand p l e R s m sargs below meth c A.U A.locs A.cells A.slots → g.method = m → g.locals.size = c.maxLocals → decode c.code g.pc = .ok (ig, len) →
    2 * g.monitorRoom + (g.stack.map fun v => v.category).sum ≤ W9 → A.U.methodNamed? y = some mk → Pre A a →
    (∃ (v : Option Value) (B : Pt), Stand p l e R s m sargs below meth c B.U B.locs B.cells B.slots ∧ Post A a v B ∧
      Steps p.tables e below (doInvoke e (A.U.setTop g) [] mk a).1 (B.U.setTop { g with pc := g.pc + len, stack := v.toList ++ g.stack })) ∨
    (∃ (q : Addr) (B : Pt), Stand p l e R s m sargs below meth c B.U B.locs B.cells B.slots ∧ PostX A a q B ∧
      Steps p.tables e below (doInvoke e (A.U.setTop g) [] mk a).1 ((B.U.setTop g).pushFrame (.throwing q)))
section Payer
variable {l : Launch} {R : Room} {p : Program} {e : Env} {below : List Frame} {s : State} {sargs : Array Value} {y : MethodName} {len W9 : Nat}
theorem vx_back {ws : List Cond} {rm : Room} {Pc : Array Value → State → Prop} {Qc : Array Value → State → Outcome → State → Prop} {XC : String → State → State → Prop} {mc ms : Nat} {free : Addr → Prop} {bytes : ByteArray} {maxL : Nat} {ret : Option FieldType}
    (hM : vx_Met l y ws rm Pc Qc XC mc ms free) (hblind : FrameBlind Pc) (hrc : rm.cells = mc) (hrs : rm.slots = ms)
    (hframes : rm.frames + 1 ≤ R.frames) (hlocals : W9 + (maxL + 11) + rm.locals ≤ R.locals)
    (hws : ∀ w ∈ ws, ∀ a' U, s.WarmedH U.vm → w.before a' U = true) (hcode : Cond.code y bytes maxL ret ∈ ws) (hinit : ∀ a' U, s.WarmedH U.vm → (Cond.initialized y.cls).before a' U = true) :
    vx_Back l R p e below s sargs y len W9 (PreOf R mc ms Pc) (PostOf Qc mc ms free) (vx_Post XC mc ms free) := by
  intro m meth c A g ig mk a X hg hsize hdg hW hn hp
  have h1 : (headSpec ws rm).pre.before a A.U = true := atoms_intro fun w hw => hws w hw _ _ X.warmed
  have h2 : (Cond.code y bytes maxL ret).before a A.U = true := hws _ hcode _ _ X.warmed
  have h3 : (Cond.initialized y.cls).before a A.U = true := hinit _ _ X.warmed
  have h4 : A.cells + (headSpec ws rm).room.cells ≤ R.cells := by rw [show (headSpec ws rm).room.cells = mc from hrc]; exact hp.1
  have h5 : A.slots + (headSpec ws rm).room.slots ≤ R.slots := by rw [show (headSpec ws rm).room.slots = ms from hrs]; exact hp.2.1
  have hPc : Pc a (A.U.calling g mk a) := hblind _ _ _ _ hp.2.2
  obtain ⟨U, Ls, c0, s0⟩ := A
  dsimp only [Pt.U, Pt.locs, Pt.cells, Pt.slots] at h1 h2 h3 h4 h5 X hn hPc ⊢
  obtain ⟨methY, cY, hmY, hcY, -, hlY, -, -, -, -⟩ := Cond.code_spec hn h2
  obtain ⟨kY, hkY, -⟩ := className_of_methodNamed hn
  have hinitY : kY.init = .initialized := Cond.initialized_spec (findClass_of_methodNamed hn) hkY h3
  have h : At U g.method c below := by rw [hg]; exact X.here
  have hlocals9 : W9 + (maxL + 11) + (headSpec ws rm).room.locals ≤ R.locals := hlocals
  have happ : (headSpec ws rm).appliesLoose y e.platform (U.calling g mk a) = true :=
    Spec.appliesLoose_calling (g := g) h hdg hn hkY hinitY
      (X.room_calling (g := g) (R' := (headSpec ws rm).room) hsize hmY hcY hframes (by rw [hlY]; omega) h4 h5) h1
  obtain ⟨mid, hmid⟩ := h.above
  have hfr : (U.setTop g).frames = (.java g :: mid) ++ below := by rw [State.frames_setTop' g h.top, hmid]; rfl
  obtain ⟨o, s₂, hsteps, -, hend, hq⟩ := Steps.callFree hM p X.admits X.cas X.clock (acts := []) hfr happ hPc trivial
  have hq' : vx_Q Qc XC mc ms free a (U.calling g mk a) o s₂ := hq
  rw [State.frames_setTop' g h.top] at hend
  obtain ⟨g₀, hg0⟩ := Option.isSome_iff_exists.mp h.top
  obtain ⟨r, hr⟩ := State.topJava?_eq_some.mp hg0
  have hr' : (({ U with heap := s₂.heap, slotsUsed := s₂.slotsUsed } : State).setVm s₂.vm).frames = .java g₀ :: r := hr
  rcases hq' with ⟨hqc, L, hfe, hL⟩ | ⟨q, rfl, E, ce, L, hx, hce, hcv, hcl, hW₂, hsm, hL⟩
  · obtain ⟨⟨v, rfl⟩, hW₂, e2, q2, q3, q4, q5, q6⟩ := id hfe
    have e3 : s₂ = ({ (U.calling g mk a).setFrames s₂.frames with heap := s₂.heap, slotsUsed := s₂.slotsUsed } : State).setVm s₂.vm := by
      have : s₂ = ({ s₂ with vm := (U.calling g mk a).vm } : State).setVm s₂.vm := rfl
      rw [e2] at this
      exact this
    obtain ⟨c₂, i₂, len₂, hc₂, hd₂, hf₂⟩ := hend
    have hW' : U.WarmedH s₂.vm := hW₂
    have hcc : c₂ = c := by
      have h1 : s₂.code? g.method = U.code? g.method := by
        rw [State.code?_eq, State.code?_eq, hW'.alike.method?]
      exact Option.some.inj (hc₂.symm.trans (h1.trans h.code))
    subst hcc
    have hlen : len₂ = len := by rw [hdg] at hd₂; cases hd₂; rfl
    subst hlen
    have hs₂ : s₂ = (({ U with heap := s₂.heap, slotsUsed := s₂.slotsUsed } : State).setVm s₂.vm).setTop { g with pc := g.pc + len₂, stack := v.toList ++ g.stack } := by
      refine e3.trans ?_
      rw [hf₂, State.calling_eq h.top, State.setFrames_setFrames, State.setTop_of_frames _ hr', hr]
      rfl
    have hsame : U.sameButNew ({ U with heap := s₂.heap, slotsUsed := s₂.slotsUsed } : State) L mc ms := by
      refine ⟨?_, q2, q3, q4, q5, q6⟩
      obtain ⟨t, ht, -⟩ := State.frames_cons hr
      show ({ U with heap := s₂.heap, slotsUsed := s₂.slotsUsed } : State) = { U.setFrames U.frames with heap := s₂.heap, slotsUsed := s₂.slotsUsed }
      rw [State.setFrames_self ht]
    subst hg
    refine Or.inl ⟨v, ⟨(({ U with heap := s₂.heap, slotsUsed := s₂.slotsUsed } : State).setVm s₂.vm), Ls ++ L, c0 + mc, s0 + ms⟩,
      ⟨X.admits, X.cas, X.clock, X.frames, X.room, X.hears, X.method, X.code, (X.here.setHeapUsed s₂.heap s₂.slotsUsed).setVm hW'.alike, X.tail, State.WarmedH.trans X.warmed hW', X.limits, X.bytes, X.same.trans (hsame.setVm s.vm)⟩,
      ⟨g, mk, s₂, L, rfl, rfl, hqc, rfl, hL, rfl, rfl⟩, ?_⟩
    show Steps p.tables e below _ ((({ U with heap := s₂.heap, slotsUsed := s₂.slotsUsed } : State).setVm s₂.vm).setTop { g with pc := g.pc + len₂, stack := v.toList ++ g.stack })
    rw [← hs₂]
    exact hsteps
  · obtain ⟨e2, q2, q3, q4, q5, q6⟩ := id hsm
    have e3 : s₂ = ({ (U.calling g mk a).setFrames s₂.frames with heap := s₂.heap, slotsUsed := s₂.slotsUsed } : State).setVm s₂.vm := by
      have : s₂ = ({ s₂ with vm := (U.calling g mk a).vm } : State).setVm s₂.vm := rfl
      rw [e2] at this
      exact this
    have hf₂ : s₂.frames = .throwing q :: .java g :: U.frames.tail := hend
    have hW' : U.WarmedH s₂.vm := hW₂
    have hs₂ : s₂ = ((({ U with heap := s₂.heap, slotsUsed := s₂.slotsUsed } : State).setVm s₂.vm).setTop g).pushFrame (.throwing q) := by
      refine e3.trans ?_
      rw [hf₂, State.calling_eq h.top, State.setFrames_setFrames, State.pushFrame, State.frames_setTop _ hr', State.setTop_of_frames _ hr', State.setFrames_setFrames, hr]
      rfl
    have hsame : U.sameButNew ({ U with heap := s₂.heap, slotsUsed := s₂.slotsUsed } : State) L mc ms := by
      refine ⟨?_, q2, q3, q4, q5, q6⟩
      obtain ⟨t, ht, -⟩ := State.frames_cons hr
      show ({ U with heap := s₂.heap, slotsUsed := s₂.slotsUsed } : State) = { U.setFrames U.frames with heap := s₂.heap, slotsUsed := s₂.slotsUsed }
      rw [State.setFrames_self ht]
    subst hg
    refine Or.inr ⟨q, ⟨(({ U with heap := s₂.heap, slotsUsed := s₂.slotsUsed } : State).setVm s₂.vm), Ls ++ L, c0 + mc, s0 + ms⟩,
      ⟨X.admits, X.cas, X.clock, X.frames, X.room, X.hears, X.method, X.code, (X.here.setHeapUsed s₂.heap s₂.slotsUsed).setVm hW'.alike, X.tail, State.WarmedH.trans X.warmed hW', X.limits, X.bytes, X.same.trans (hsame.setVm s.vm)⟩,
      ⟨g, mk, s₂, L, E, ce, rfl, rfl, hx, hce, hcv, hcl, rfl, hL, rfl, rfl⟩, ?_⟩
    show Steps p.tables e below _ (((({ U with heap := s₂.heap, slotsUsed := s₂.slotsUsed } : State).setVm s₂.vm).setTop g).pushFrame (.throwing q))
    rw [← hs₂]
    exact hsteps
end Payer
section Calls
variable {p : Program} {l : Launch} {e : Env} {R : Room} {s : State} {m : MethodId} {args : Array Value} {below : List Frame} {meth : Method} {c : Code} {T : State} {locs : List Loc} {cells slots : Nat}
theorem vx_callV (X : Stand p l e R s m args below meth c T locs cells slots) (hexec : p.tables.exec = Jvm.exec) {own C : String} {index : Nat} {y : MethodName} {bytes : ByteArray} {maxL : Nat} {ret : Option FieldType}
    (hown : s.vm.findClass own = some m.cls) (hlink : (Cond.methodLink own index y).before args s = true) (hinst : (Cond.instanceMethod y).before args s = true) (hsel : (Cond.selects C y y).before args s = true)
    (hcode : (Cond.code y bytes maxL ret).before args s = true) (hy : y.cls ≠ "java/lang/invoke/MethodHandle" ∧ y.cls ≠ "java/lang/invoke/VarHandle")
    {W9 : Nat} {Pre : Pt → Array Value → Prop} {Post : Pt → Array Value → Option Value → Pt → Prop} {PostX : Pt → Array Value → Addr → Pt → Prop} (hK : vx_Back l R p e below s args y 3 W9 Pre Post PostX)
    {b : Addr} {cellB : Cell} (hcell : T.heap[b]? = some cellB) (hobj : cellB.vm.isStatics = false) (hcls : s.vm.findClass C = some cellB.cls)
    {g : JFrame} (hg : g.method = m) (hsize : g.locals.size = c.maxLocals) {argsL rest : List Value} (hlen : ∀ sig, parseMethodDescriptor y.desc = some sig → argsL.length = sig.parameters.length)
    (hstack : g.stack = argsL.reverse ++ .ref b :: rest) (hW : 2 * g.monitorRoom + (rest.map fun v => v.category).sum ≤ W9) (hdg : decode c.code g.pc = .ok (.invokevirtual index, 3))
    (hpre : ∀ vm₁, s.WarmedH vm₁ → Pre ⟨T.setVm vm₁, locs, cells, slots⟩ (Value.ref b :: argsL).toArray) :
    (∃ (v : Option Value) (vm₁ : Vm) (B : Pt), s.WarmedH vm₁ ∧ Stand p l e R s m args below meth c B.U B.locs B.cells B.slots ∧ Post ⟨T.setVm vm₁, locs, cells, slots⟩ (Value.ref b :: argsL).toArray v B ∧
      ∀ target, Steps p.tables e below (B.U.setTop { g with pc := g.pc + 3, stack := v.toList ++ rest }) target → Steps p.tables e below (T.setTop g) target) ∨
    (∃ (q : Addr) (vm₁ : Vm) (B : Pt), s.WarmedH vm₁ ∧ Stand p l e R s m args below meth c B.U B.locs B.cells B.slots ∧ PostX ⟨T.setVm vm₁, locs, cells, slots⟩ (Value.ref b :: argsL).toArray q B ∧
      Steps p.tables e below (T.setTop g) ((B.U.setTop { g with stack := rest }).pushFrame (.throwing q))) := by
  obtain ⟨mk, methM, hnamed, hmethM, hstM, habM⟩ := Cond.instanceMethod_spec hinst
  obtain ⟨methM', cM, hmethM', -, -, -, -, -, -, hsigM⟩ := Cond.code_spec hnamed hcode
  cases hmethM.symm.trans hmethM'
  obtain ⟨c2, r2, m2, q1, q2, q3, q4, kP, hkP, hkPi⟩ := Cond.selects_spec hsel
  cases hcls.symm.trans q1
  cases (State.methodFound?_of_named hnamed hy).symm.trans q2
  cases hnamed.symm.trans q3
  have hselP : selectMethod e.platform s.vm cellB.cls mk = .method mk := by rw [Launch.admits_selectMethod X.admits]; exact q4
  obtain ⟨vm₁, X₁, hstep₁⟩ := X.invokevirtual hexec hown hlink hnamed hmethM hstM hkP hkPi hy (a := b) (cell := cellB) hcell
    (fun z h => by rw [h] at hobj; cases hobj) hselP hmethM habM hkP hkPi (g := g) hg (argsL := argsL) (rest := rest) (hlen _ hsigM) hstack hdg
  rcases hK m meth c ⟨T.setVm vm₁, locs, cells, slots⟩ { g with stack := rest } (.invokevirtual index) mk (Value.ref b :: argsL).toArray X₁ hg hsize hdg hW (X₁.named hnamed) (hpre vm₁ X₁.warmed) with ⟨v, B, X', hpost, hsteps⟩ | ⟨q, B, X', hpost, hsteps⟩
  · exact Or.inl ⟨v, vm₁, B, X₁.warmed, X', hpost, fun target h => hstep₁ _ fun acts => by rw [doInvoke_state]; exact hsteps.trans h⟩
  · exact Or.inr ⟨q, vm₁, B, X₁.warmed, X', hpost, hstep₁ _ fun acts => by rw [doInvoke_state]; exact hsteps⟩
theorem vx_callS (X : Stand p l e R s m args below meth c T locs cells slots) (hexec : p.tables.exec = Jvm.exec) {own : String} {index : Nat} {y : MethodName} {bytes : ByteArray} {maxL : Nat} {ret : Option FieldType}
    (hown : s.vm.findClass own = some m.cls) (hlink : (Cond.methodLink own index y).before args s = true) (hstat : (Cond.static y).before args s = true) (hinit : (Cond.initialized y.cls).before args s = true)
    (hcode : (Cond.code y bytes maxL ret).before args s = true) (hy : y.cls ≠ "java/lang/invoke/MethodHandle" ∧ y.cls ≠ "java/lang/invoke/VarHandle")
    {W9 : Nat} {Pre : Pt → Array Value → Prop} {Post : Pt → Array Value → Option Value → Pt → Prop} {PostX : Pt → Array Value → Addr → Pt → Prop} (hK : vx_Back l R p e below s args y 3 W9 Pre Post PostX)
    {g : JFrame} (hg : g.method = m) (hsize : g.locals.size = c.maxLocals) {argsL rest : List Value} (hlen : ∀ sig, parseMethodDescriptor y.desc = some sig → argsL.length = sig.parameters.length)
    (hstack : g.stack = argsL.reverse ++ rest) (hW : 2 * g.monitorRoom + (rest.map fun v => v.category).sum ≤ W9) (hdg : decode c.code g.pc = .ok (.invokestatic index, 3))
    (hpre : ∀ vm₁, s.WarmedH vm₁ → Pre ⟨T.setVm vm₁, locs, cells, slots⟩ argsL.toArray) :
    (∃ (v : Option Value) (vm₁ : Vm) (B : Pt), s.WarmedH vm₁ ∧ Stand p l e R s m args below meth c B.U B.locs B.cells B.slots ∧ Post ⟨T.setVm vm₁, locs, cells, slots⟩ argsL.toArray v B ∧
      ∀ target, Steps p.tables e below (B.U.setTop { g with pc := g.pc + 3, stack := v.toList ++ rest }) target → Steps p.tables e below (T.setTop g) target) ∨
    (∃ (q : Addr) (vm₁ : Vm) (B : Pt), s.WarmedH vm₁ ∧ Stand p l e R s m args below meth c B.U B.locs B.cells B.slots ∧ PostX ⟨T.setVm vm₁, locs, cells, slots⟩ argsL.toArray q B ∧
      Steps p.tables e below (T.setTop g) ((B.U.setTop { g with stack := rest }).pushFrame (.throwing q))) := by
  obtain ⟨mk, hnamed⟩ := Cond.code_named hcode
  obtain ⟨methM, cM, hmethM, -, -, -, -, -, -, hsigM⟩ := Cond.code_spec hnamed hcode
  have hstatic : methM.isStatic = true := Cond.static_spec hnamed hmethM hstat
  obtain ⟨kP, hkP, -⟩ := className_of_methodNamed hnamed
  have hinitP : kP.init = .initialized := Cond.initialized_spec (findClass_of_methodNamed hnamed) hkP hinit
  obtain ⟨vm₁, X₁, hstep₁⟩ := X.invokestatic hexec hown hlink hnamed hmethM hstatic hkP hinitP hy (g := g) hg (argsL := argsL) (rest := rest) (hlen _ hsigM) hstack hdg
  rcases hK m meth c ⟨T.setVm vm₁, locs, cells, slots⟩ { g with stack := rest } (.invokestatic index) mk argsL.toArray X₁ hg hsize hdg hW (X₁.named hnamed) (hpre vm₁ X₁.warmed) with ⟨v, B, X', hpost, hsteps⟩ | ⟨q, B, X', hpost, hsteps⟩
  · exact Or.inl ⟨v, vm₁, B, X₁.warmed, X', hpost, fun target h => hstep₁ _ fun acts => by rw [doInvoke_state]; exact hsteps.trans h⟩
  · exact Or.inr ⟨q, vm₁, B, X₁.warmed, X', hpost, hstep₁ _ fun acts => by rw [doInvoke_state]; exact hsteps⟩
end Calls
theorem vx_cls {s : State} {T : State} {vm₁ : Vm} {E : String} {k : ClassId} (hW : s.WarmedH vm₁) (h : (T.setVm vm₁).vm.findClass E = some k) : s.vm.findClass E = some k := by
  have h1 : vm₁.findClass E = some k := h
  rw [hW.alike.findClass] at h1
  exact h1
/-- the method's frame g, with q thrown over it -/
def vx_W (p : Program) (l : Launch) (e : Env) (R : Room) (s : State) (m : MethodId) (args : Array Value) (below : List Frame) (meth : Method) (c : Code) (H : Heap) (locs : List Loc) (cells slots : Nat) (Q : State → Prop) (g : JFrame) (q : Addr) : Prop :=
  ∀ T : State, T.heap = H → Stand p l e R s m args below meth c T locs cells slots → ∃ t, Steps p.tables e below ((T.setTop g).pushFrame (.throwing q)) t ∧ Q t
def vx_Run (p : Program) (l : Launch) (e : Env) (R : Room) (s : State) (m : MethodId) (args : Array Value) (below : List Frame) (meth : Method) (c : Code) (H : Heap) (locs : List Loc) (cells slots mc ms : Nat) (g : JFrame) (rest : List Value) (Qa : State → Outcome → State → Prop) (XC : String → State → State → Prop) (free : Addr → Prop) : Prop :=
  ∀ T : State, T.heap = H → Stand p l e R s m args below meth c T locs cells slots →
    (∃ (v : Option Value) (st₀ t T' : State) (L : List Loc), st₀.heap = H ∧ Stand p l e R s m args below meth c T' (locs ++ L) (cells + mc) (slots + ms) ∧ (∀ q ∈ L, free q.base) ∧ T'.heap = t.heap ∧ T'.vm = t.vm ∧ Qa st₀ (.returned v) t ∧
      Goes p e below T g T' { g with pc := g.pc + 3, stack := v.toList ++ rest }) ∨
    (∃ (q : Addr) (st₀ t T' : State) (L : List Loc) (E : String) (ce : Cell), st₀.heap = H ∧ Stand p l e R s m args below meth c T' (locs ++ L) (cells + mc) (slots + ms) ∧ (∀ z ∈ L, free z.base) ∧ T'.heap = t.heap ∧ T'.vm = t.vm ∧ XC E st₀ t ∧ t.heap[q]? = some ce ∧ ce.vm = .none ∧ s.vm.findClass E = some ce.cls ∧
      Steps p.tables e below (T.setTop g) ((T'.setTop { g with stack := rest }).pushFrame (.throwing q)))
def vx_X {S : Type} (px : S → Prop) (B : String → S → State → Prop) (A : Nat → Prop) : String → State → State → Prop := fun E st t => ∃ u : S, px u ∧ B E u t ∧ va_F A st t
section Runs
variable {p : Program} {l : Launch} {e : Env} {R : Room} {s : State} {m : MethodId} {args : Array Value} {below : List Frame} {meth : Method} {c : Code} {H : Heap} {locs : List Loc} {cells slots : Nat}
variable {y : MethodName} {bytes cc : ByteArray} {maxL nL mc ms n index : Nat} {ret : Option FieldType} {ws : List Cond} {rm : Room} {Pc : Array Value → State → Prop} {Qc : Array Value → State → Outcome → State → Prop} {XC : String → State → State → Prop} {free : Addr → Prop} {Ts : List Cond} {own C : String} {b : Addr} {As rest : List Value} {g : JFrame}
theorem vx_callBack (cb : CallB R s args own index y bytes maxL ret ws rm mc ms n) (hM : vx_Met l y ws rm Pc Qc XC mc ms free) (hbl : FrameBlind Pc) : vx_Back l R p e below s args y 3 8 (PreOf R mc ms Pc) (PostOf Qc mc ms free) (vx_Post XC mc ms free) := by
  obtain ⟨hrc, hrs, hfr, hlo, hws, hcw, -, hini, -⟩ := cb
  exact vx_back (bytes := bytes) (maxL := maxL) (ret := ret) hM hbl hrc hrs hfr hlo hws hcw (fun a' U hW => word_at hW (Or.inl (by first | rfl | simp [Cond.onTables, Cond.keeps, Cond.steady])) hini)
theorem vx_runV (S : CallFix p m c cc nL s args Ts own) (hM : vx_Met l y ws rm Pc Qc XC mc ms free) (cw : CallW R s args own C index y bytes maxL ret ws rm mc ms n) (hp : PreV s H C b Pc As)
    (hg : g.method = m) (hn : As.length = n) (hsize : g.locals.size = nL) (hstack : g.stack = As.reverse ++ .ref b :: rest) (hW : 2 * g.monitorRoom + (rest.map fun v => v.category).sum ≤ 8) (hdg : decode cc g.pc = .ok (.invokevirtual index, 3)) (hf : cells + mc ≤ R.cells ∧ slots + ms ≤ R.slots) :
    vx_Run p l e R s m args below meth c H locs cells slots mc ms g rest (Qc (Value.ref b :: As).toArray) XC free := by
  have hK : vx_Back l R p e below s args y 3 8 (PreOf R mc ms Pc) (PostOf Qc mc ms free) (vx_Post XC mc ms free) := vx_callBack cw.1 hM hp.1
  obtain ⟨⟨-, -, -, -, -, -, hcode, -, hy, hlen, hl⟩, hin, hse⟩ := cw
  obtain ⟨hx, hb, hml, ho, -⟩ := S
  obtain ⟨-, ⟨cellB, hcB, hoB, hclB⟩, hPc⟩ := hp
  intro T hT X
  rcases vx_callV X hx (C := C) (bytes := bytes) (maxL := maxL) (ret := ret) ho hl hin hse hcode hy hK (by rw [hT]; exact hcB) hoB hclB hg (hsize.trans hml.symm) (argsL := As) (rest := rest) (fun sig h => hn.trans (hlen sig h)) hstack hW (by rw [hb]; exact hdg)
    (fun vm₁ hW₁ => ⟨hf.1, hf.2, hPc (T.setVm vm₁) hT hW₁⟩) with ⟨v, vm₁, ⟨U', l2, c2, s2⟩, hW₁, X', ⟨g', mk, t, L, e1, e2, hq, h1, hL, h2, h3⟩, st⟩ | ⟨q, vm₁, ⟨U', l2, c2, s2⟩, hW₁, X', ⟨g', mk, t, L, E, ce, e1, e2, hq, hce, hcv, hcl, h1, hL, h2, h3⟩, st⟩
  · dsimp only [Pt.U, Pt.locs, Pt.cells, Pt.slots] at X' e1 e2 h1 h2 h3 st
    subst h1; subst h2; subst h3
    exact Or.inl ⟨v, (T.setVm vm₁).calling g' mk (Value.ref b :: As).toArray, t, U', L, hT, X', hL, e1, e2, hq, st⟩
  · dsimp only [Pt.U, Pt.locs, Pt.cells, Pt.slots] at X' e1 e2 h1 h2 h3 st hcl
    subst h1; subst h2; subst h3
    exact Or.inr ⟨q, (T.setVm vm₁).calling g' mk (Value.ref b :: As).toArray, t, U', L, E, ce, hT, X', hL, e1, e2, hq, hce, hcv, vx_cls hW₁ hcl, st⟩
theorem vx_runS (S : CallFix p m c cc nL s args Ts own) (hM : vx_Met l y ws rm Pc Qc XC mc ms free) (cw : CallB R s args own index y bytes maxL ret ws rm mc ms n ∧ (Cond.static y).before args s = true) (hp : PreS s H Pc As)
    (hg : g.method = m) (hn : As.length = n) (hsize : g.locals.size = nL) (hstack : g.stack = As.reverse ++ rest) (hW : 2 * g.monitorRoom + (rest.map fun v => v.category).sum ≤ 8) (hdg : decode cc g.pc = .ok (.invokestatic index, 3)) (hf : cells + mc ≤ R.cells ∧ slots + ms ≤ R.slots) :
    vx_Run p l e R s m args below meth c H locs cells slots mc ms g rest (Qc As.toArray) XC free := by
  have hK : vx_Back l R p e below s args y 3 8 (PreOf R mc ms Pc) (PostOf Qc mc ms free) (vx_Post XC mc ms free) := vx_callBack cw.1 hM hp.1
  obtain ⟨⟨-, -, -, -, -, -, hcode, hini, hy, hlen, hl⟩, hstt⟩ := cw
  obtain ⟨hx, hb, hml, ho, -⟩ := S
  intro T hT X
  rcases vx_callS X hx (bytes := bytes) (maxL := maxL) (ret := ret) ho hl hstt hini hcode hy hK hg (hsize.trans hml.symm) (argsL := As) (rest := rest) (fun sig h => hn.trans (hlen sig h)) hstack hW (by rw [hb]; exact hdg)
    (fun vm₁ hW₁ => ⟨hf.1, hf.2, hp.2 (T.setVm vm₁) hT hW₁⟩) with ⟨v, vm₁, ⟨U', l2, c2, s2⟩, hW₁, X', ⟨g', mk, t, L, e1, e2, hq, h1, hL, h2, h3⟩, st⟩ | ⟨q, vm₁, ⟨U', l2, c2, s2⟩, hW₁, X', ⟨g', mk, t, L, E, ce, e1, e2, hq, hce, hcv, hcl, h1, hL, h2, h3⟩, st⟩
  · dsimp only [Pt.U, Pt.locs, Pt.cells, Pt.slots] at X' e1 e2 h1 h2 h3 st
    subst h1; subst h2; subst h3
    exact Or.inl ⟨v, (T.setVm vm₁).calling g' mk As.toArray, t, U', L, hT, X', hL, e1, e2, hq, st⟩
  · dsimp only [Pt.U, Pt.locs, Pt.cells, Pt.slots] at X' e1 e2 h1 h2 h3 st hcl
    subst h1; subst h2; subst h3
    exact Or.inr ⟨q, (T.setVm vm₁).calling g' mk As.toArray, t, U', L, E, ce, hT, X', hL, e1, e2, hq, hce, hcv, vx_cls hW₁ hcl, st⟩
end Runs
section Rows
variable {p : Program} {l : Launch} {e : Env} {R : Room} {s : State} {m : MethodId} {args : Array Value} {below : List Frame} {meth : Method} {c : Code} {H : Heap} {locs : List Loc} {cells slots : Nat} {Q : State → Prop}
variable {mc ms : Nat} {free : Addr → Prop} {A0 A1 : Nat → Prop} {H0 : Heap} {a : Array Value} {pc : Nat} {ls : Array Slot} {st0 rest : List Value}
theorem vx_keep {st₀ t T' : State} {L : List Loc} (h0 : st₀.heap = H) (e1 : T'.heap = t.heap) (hS : va_S A0 H0 H locs) (hA : ∀ q, q < H.size → A1 q → A0 q) (hf : ∀ q, free q → A0 q) (hL : ∀ q ∈ L, free q.base) (hF : va_F A1 st₀ t) :
    H.size ≤ T'.heap.size ∧ (∀ q : Nat, q < H.size → ¬ A1 q → T'.heap[q]? = H[q]?) ∧ va_S A0 H0 T'.heap (locs ++ L) := by
  obtain ⟨hz, hk⟩ := hF
  rw [h0] at hz hk
  exact ⟨by rw [e1]; exact hz, fun q h1 h2 => by rw [e1]; exact hk q h1 h2,
    ⟨Nat.le_trans hS.1 (by rw [e1]; exact hz), fun q h1 h2 => by rw [e1, hk q (Nat.lt_of_lt_of_le h1 hS.1) (fun z => h2 (hA q (Nat.lt_of_lt_of_le h1 hS.1) z))]; exact hS.2.1 q h1 h2, fun q hq => by
      rcases List.mem_append.mp hq with h | h
      · exact hS.2.2 q h
      · exact hf _ (hL q h)⟩⟩
theorem vx_calli {S SX : Type} {post : Int32 → S → Prop} {px : SX → Prop} {B : S → State → Prop} {BX : String → SX → State → Prop} {AX : Nat → Prop} (hr : vx_Run p l e R s m args below meth c H locs cells slots mc ms (F0 m pc ls st0) rest (va_Qi post B A1 a) (vx_X px BX AX) free) (hS : va_S A0 H0 H locs) (hA : ∀ q, q < H.size → A1 q → A0 q) (hf : ∀ q, free q → A0 q) (hAX : ∀ q, q < H.size → AX q → A0 q)
    (kx : ∀ (E : String) (ce : Cell) (q9 : Addr) (u : SX) (t : State) (H1 : Heap) (locs1 : List Loc), t.heap = H1 → s.vm.Alike t.vm → px u → BX E u t → H.size ≤ H1.size → (∀ q : Nat, q < H.size → ¬ AX q → H1[q]? = H[q]?) → va_S A0 H0 H1 locs1 → H1[q9]? = some ce → ce.vm = .none → s.vm.findClass E = some ce.cls → vx_W p l e R s m args below meth c H1 locs1 (cells + mc) (slots + ms) Q (F0 m pc ls rest) q9)
    (kk : ∀ (r : Int32) (u : S) (t : State) (H1 : Heap) (locs1 : List Loc), t.heap = H1 → s.vm.Alike t.vm → post r u → B u t → H.size ≤ H1.size → (∀ q : Nat, q < H.size → ¬ A1 q → H1[q]? = H[q]?) → va_S A0 H0 H1 locs1 → W p l e R s m args below meth c H1 locs1 (cells + mc) (slots + ms) Q (F0 m (pc + 3) ls (.int r :: rest))) : W p l e R s m args below meth c H locs cells slots Q (F0 m pc ls st0) := by
  intro T hT X
  rcases hr T hT X with ⟨v, st₀, t, T', L, h0, X', hL, e1, e2, ⟨⟨r, u, hv, hp, hb⟩, hF⟩, st⟩ | ⟨q, st₀, t, T', L, E, ce, h0, X', hL, e1, e2, ⟨u, hp, hb, hF⟩, hce, hcv, hcl, st⟩
  · cases hv
    obtain ⟨k1, k2, k3⟩ := vx_keep h0 e1 hS hA hf hL hF
    obtain ⟨t2, a1, b1⟩ := kk r u t T'.heap (locs ++ L) e1.symm (by rw [← e2]; exact X'.warmed.alike) hp hb k1 k2 k3 T' rfl X'
    exact ⟨t2, st t2 a1, b1⟩
  · obtain ⟨k1, k2, k3⟩ := vx_keep h0 e1 hS hAX hf hL hF
    obtain ⟨t2, a1, b1⟩ := kx E ce q u t T'.heap (locs ++ L) e1.symm (by rw [← e2]; exact X'.warmed.alike) hp hb k1 k2 k3 (by rw [e1]; exact hce) hcv hcl T' rfl X'
    exact ⟨t2, st.trans a1, b1⟩
theorem vx_calll {S SX : Type} {post : Int64 → S → Prop} {px : SX → Prop} {B : S → State → Prop} {BX : String → SX → State → Prop} {AX : Nat → Prop} (hr : vx_Run p l e R s m args below meth c H locs cells slots mc ms (F0 m pc ls st0) rest (va_Ql post B A1 a) (vx_X px BX AX) free) (hS : va_S A0 H0 H locs) (hA : ∀ q, q < H.size → A1 q → A0 q) (hf : ∀ q, free q → A0 q) (hAX : ∀ q, q < H.size → AX q → A0 q)
    (kx : ∀ (E : String) (ce : Cell) (q9 : Addr) (u : SX) (t : State) (H1 : Heap) (locs1 : List Loc), t.heap = H1 → s.vm.Alike t.vm → px u → BX E u t → H.size ≤ H1.size → (∀ q : Nat, q < H.size → ¬ AX q → H1[q]? = H[q]?) → va_S A0 H0 H1 locs1 → H1[q9]? = some ce → ce.vm = .none → s.vm.findClass E = some ce.cls → vx_W p l e R s m args below meth c H1 locs1 (cells + mc) (slots + ms) Q (F0 m pc ls rest) q9)
    (kk : ∀ (r : Int64) (u : S) (t : State) (H1 : Heap) (locs1 : List Loc), t.heap = H1 → s.vm.Alike t.vm → post r u → B u t → H.size ≤ H1.size → (∀ q : Nat, q < H.size → ¬ A1 q → H1[q]? = H[q]?) → va_S A0 H0 H1 locs1 → W p l e R s m args below meth c H1 locs1 (cells + mc) (slots + ms) Q (F0 m (pc + 3) ls (.long r :: rest))) : W p l e R s m args below meth c H locs cells slots Q (F0 m pc ls st0) := by
  intro T hT X
  rcases hr T hT X with ⟨v, st₀, t, T', L, h0, X', hL, e1, e2, ⟨⟨r, u, hv, hp, hb⟩, hF⟩, st⟩ | ⟨q, st₀, t, T', L, E, ce, h0, X', hL, e1, e2, ⟨u, hp, hb, hF⟩, hce, hcv, hcl, st⟩
  · cases hv
    obtain ⟨k1, k2, k3⟩ := vx_keep h0 e1 hS hA hf hL hF
    obtain ⟨t2, a1, b1⟩ := kk r u t T'.heap (locs ++ L) e1.symm (by rw [← e2]; exact X'.warmed.alike) hp hb k1 k2 k3 T' rfl X'
    exact ⟨t2, st t2 a1, b1⟩
  · obtain ⟨k1, k2, k3⟩ := vx_keep h0 e1 hS hAX hf hL hF
    obtain ⟨t2, a1, b1⟩ := kx E ce q u t T'.heap (locs ++ L) e1.symm (by rw [← e2]; exact X'.warmed.alike) hp hb k1 k2 k3 (by rw [e1]; exact hce) hcv hcl T' rfl X'
    exact ⟨t2, st.trans a1, b1⟩
theorem vx_callf {S SX : Type} {post : UInt32 → S → Prop} {px : SX → Prop} {B : S → State → Prop} {BX : String → SX → State → Prop} {AX : Nat → Prop} (hr : vx_Run p l e R s m args below meth c H locs cells slots mc ms (F0 m pc ls st0) rest (va_Qf post B A1 a) (vx_X px BX AX) free) (hS : va_S A0 H0 H locs) (hA : ∀ q, q < H.size → A1 q → A0 q) (hf : ∀ q, free q → A0 q) (hAX : ∀ q, q < H.size → AX q → A0 q)
    (kx : ∀ (E : String) (ce : Cell) (q9 : Addr) (u : SX) (t : State) (H1 : Heap) (locs1 : List Loc), t.heap = H1 → s.vm.Alike t.vm → px u → BX E u t → H.size ≤ H1.size → (∀ q : Nat, q < H.size → ¬ AX q → H1[q]? = H[q]?) → va_S A0 H0 H1 locs1 → H1[q9]? = some ce → ce.vm = .none → s.vm.findClass E = some ce.cls → vx_W p l e R s m args below meth c H1 locs1 (cells + mc) (slots + ms) Q (F0 m pc ls rest) q9)
    (kk : ∀ (r : UInt32) (u : S) (t : State) (H1 : Heap) (locs1 : List Loc), t.heap = H1 → s.vm.Alike t.vm → post r u → B u t → H.size ≤ H1.size → (∀ q : Nat, q < H.size → ¬ A1 q → H1[q]? = H[q]?) → va_S A0 H0 H1 locs1 → W p l e R s m args below meth c H1 locs1 (cells + mc) (slots + ms) Q (F0 m (pc + 3) ls (.float r :: rest))) : W p l e R s m args below meth c H locs cells slots Q (F0 m pc ls st0) := by
  intro T hT X
  rcases hr T hT X with ⟨v, st₀, t, T', L, h0, X', hL, e1, e2, ⟨⟨r, u, hv, hp, hb⟩, hF⟩, st⟩ | ⟨q, st₀, t, T', L, E, ce, h0, X', hL, e1, e2, ⟨u, hp, hb, hF⟩, hce, hcv, hcl, st⟩
  · cases hv
    obtain ⟨k1, k2, k3⟩ := vx_keep h0 e1 hS hA hf hL hF
    obtain ⟨t2, a1, b1⟩ := kk r u t T'.heap (locs ++ L) e1.symm (by rw [← e2]; exact X'.warmed.alike) hp hb k1 k2 k3 T' rfl X'
    exact ⟨t2, st t2 a1, b1⟩
  · obtain ⟨k1, k2, k3⟩ := vx_keep h0 e1 hS hAX hf hL hF
    obtain ⟨t2, a1, b1⟩ := kx E ce q u t T'.heap (locs ++ L) e1.symm (by rw [← e2]; exact X'.warmed.alike) hp hb k1 k2 k3 (by rw [e1]; exact hce) hcv hcl T' rfl X'
    exact ⟨t2, st.trans a1, b1⟩
theorem vx_calld {S SX : Type} {post : UInt64 → S → Prop} {px : SX → Prop} {B : S → State → Prop} {BX : String → SX → State → Prop} {AX : Nat → Prop} (hr : vx_Run p l e R s m args below meth c H locs cells slots mc ms (F0 m pc ls st0) rest (va_Qd post B A1 a) (vx_X px BX AX) free) (hS : va_S A0 H0 H locs) (hA : ∀ q, q < H.size → A1 q → A0 q) (hf : ∀ q, free q → A0 q) (hAX : ∀ q, q < H.size → AX q → A0 q)
    (kx : ∀ (E : String) (ce : Cell) (q9 : Addr) (u : SX) (t : State) (H1 : Heap) (locs1 : List Loc), t.heap = H1 → s.vm.Alike t.vm → px u → BX E u t → H.size ≤ H1.size → (∀ q : Nat, q < H.size → ¬ AX q → H1[q]? = H[q]?) → va_S A0 H0 H1 locs1 → H1[q9]? = some ce → ce.vm = .none → s.vm.findClass E = some ce.cls → vx_W p l e R s m args below meth c H1 locs1 (cells + mc) (slots + ms) Q (F0 m pc ls rest) q9)
    (kk : ∀ (r : UInt64) (u : S) (t : State) (H1 : Heap) (locs1 : List Loc), t.heap = H1 → s.vm.Alike t.vm → post r u → B u t → H.size ≤ H1.size → (∀ q : Nat, q < H.size → ¬ A1 q → H1[q]? = H[q]?) → va_S A0 H0 H1 locs1 → W p l e R s m args below meth c H1 locs1 (cells + mc) (slots + ms) Q (F0 m (pc + 3) ls (.double r :: rest))) : W p l e R s m args below meth c H locs cells slots Q (F0 m pc ls st0) := by
  intro T hT X
  rcases hr T hT X with ⟨v, st₀, t, T', L, h0, X', hL, e1, e2, ⟨⟨r, u, hv, hp, hb⟩, hF⟩, st⟩ | ⟨q, st₀, t, T', L, E, ce, h0, X', hL, e1, e2, ⟨u, hp, hb, hF⟩, hce, hcv, hcl, st⟩
  · cases hv
    obtain ⟨k1, k2, k3⟩ := vx_keep h0 e1 hS hA hf hL hF
    obtain ⟨t2, a1, b1⟩ := kk r u t T'.heap (locs ++ L) e1.symm (by rw [← e2]; exact X'.warmed.alike) hp hb k1 k2 k3 T' rfl X'
    exact ⟨t2, st t2 a1, b1⟩
  · obtain ⟨k1, k2, k3⟩ := vx_keep h0 e1 hS hAX hf hL hF
    obtain ⟨t2, a1, b1⟩ := kx E ce q u t T'.heap (locs ++ L) e1.symm (by rw [← e2]; exact X'.warmed.alike) hp hb k1 k2 k3 (by rw [e1]; exact hce) hcv hcl T' rfl X'
    exact ⟨t2, st.trans a1, b1⟩
theorem vx_callv {S SX : Type} {post : S → Prop} {px : SX → Prop} {B : S → State → Prop} {BX : String → SX → State → Prop} {AX : Nat → Prop} (hr : vx_Run p l e R s m args below meth c H locs cells slots mc ms (F0 m pc ls st0) rest (va_Qv post B A1 a) (vx_X px BX AX) free) (hS : va_S A0 H0 H locs) (hA : ∀ q, q < H.size → A1 q → A0 q) (hf : ∀ q, free q → A0 q) (hAX : ∀ q, q < H.size → AX q → A0 q)
    (kx : ∀ (E : String) (ce : Cell) (q9 : Addr) (u : SX) (t : State) (H1 : Heap) (locs1 : List Loc), t.heap = H1 → s.vm.Alike t.vm → px u → BX E u t → H.size ≤ H1.size → (∀ q : Nat, q < H.size → ¬ AX q → H1[q]? = H[q]?) → va_S A0 H0 H1 locs1 → H1[q9]? = some ce → ce.vm = .none → s.vm.findClass E = some ce.cls → vx_W p l e R s m args below meth c H1 locs1 (cells + mc) (slots + ms) Q (F0 m pc ls rest) q9)
    (kk : ∀ (u : S) (t : State) (H1 : Heap) (locs1 : List Loc), t.heap = H1 → s.vm.Alike t.vm → post u → B u t → H.size ≤ H1.size → (∀ q : Nat, q < H.size → ¬ A1 q → H1[q]? = H[q]?) → va_S A0 H0 H1 locs1 → W p l e R s m args below meth c H1 locs1 (cells + mc) (slots + ms) Q (F0 m (pc + 3) ls (rest))) : W p l e R s m args below meth c H locs cells slots Q (F0 m pc ls st0) := by
  intro T hT X
  rcases hr T hT X with ⟨v, st₀, t, T', L, h0, X', hL, e1, e2, ⟨⟨u, hv, hp, hb⟩, hF⟩, st⟩ | ⟨q, st₀, t, T', L, E, ce, h0, X', hL, e1, e2, ⟨u, hp, hb, hF⟩, hce, hcv, hcl, st⟩
  · cases hv
    obtain ⟨k1, k2, k3⟩ := vx_keep h0 e1 hS hA hf hL hF
    obtain ⟨t2, a1, b1⟩ := kk u t T'.heap (locs ++ L) e1.symm (by rw [← e2]; exact X'.warmed.alike) hp hb k1 k2 k3 T' rfl X'
    exact ⟨t2, st t2 a1, b1⟩
  · obtain ⟨k1, k2, k3⟩ := vx_keep h0 e1 hS hAX hf hL hF
    obtain ⟨t2, a1, b1⟩ := kx E ce q u t T'.heap (locs ++ L) e1.symm (by rw [← e2]; exact X'.warmed.alike) hp hb k1 k2 k3 (by rw [e1]; exact hce) hcv hcl T' rfl X'
    exact ⟨t2, st.trans a1, b1⟩
/-- caught by the row x of this method's table; the rows ahead don't take it -/
theorem vx_catch {own name : String} {E : String} {ce : Cell} {q : Addr} (hown : s.vm.findClass own = some m.cls) (pre : List ExceptionTableEntry) (x : ExceptionTableEntry) (suf : List ExceptionTableEntry) (hsplit : c.exceptionTable.toList = pre ++ x :: suf)
    (hpass : ∀ z ∈ pre, covers z pc = false ∨ (z.catchType ≠ 0 ∧ ∃ nm : String, (Cond.classLink own z.catchType nm).before args s = true ∧ va_Nc E nm s)) (hx : covers x pc = true) (h0 : x.catchType ≠ 0)
    (hlink : (Cond.classLink own x.catchType name).before args s = true) (hcast : (Cond.castable E name).before args s = true) (hcell : H[q]? = some ce) (hv : ce.vm = .none) (hcl : s.vm.findClass E = some ce.cls)
    (kk : W p l e R s m args below meth c H locs cells slots Q (F0 m x.handlerPc ls [.ref q])) : vx_W p l e R s m args below meth c H locs cells slots Q (F0 m pc ls rest) q := by
  intro T hT X
  have hpl : e.platform.magicAccessors = ({} : Platform).magicAccessors := by rw [X.admits.platform]
  obtain ⟨c3, c4, hc3, hc4, hasg⟩ := Cond.castable_spec hcast
  cases Option.some.inj (hc3.symm.trans hcl)
  obtain ⟨c5, hc5, hcl5⟩ := Cond.classLink_spec hown hlink e.platform hpl
  cases Option.some.inj (hc4.symm.trans hc5)
  obtain ⟨vm', X', st⟩ := X.thenCaughtThrough q (g := F0 m pc ls rest) rfl (Steps.refl _) (by rw [hT]; exact hcell) (by rw [hv]; rfl) (by obtain ⟨k9, h9, -⟩ := Vm.findClass_spec hcl; exact ⟨k9, h9⟩) pre x suf hsplit
    (fun z hz => by
      rcases hpass z hz with h | ⟨hz0, nm, hl1, hn1⟩
      · exact Or.inl h
      · obtain ⟨c6, hc6, hcl6⟩ := Cond.classLink_spec hown hl1 e.platform hpl
        obtain ⟨a8, b8, h1, h2, h3⟩ := hn1
        cases Option.some.inj (h1.symm.trans hcl)
        cases Option.some.inj (h2.symm.trans hc6)
        exact Or.inr ⟨hz0, _, hcl6, h3⟩) hx (Or.inr ⟨h0, c4, hcl5, hasg⟩)
  obtain ⟨t, a1, b1⟩ := kk (T.setVm vm') hT X'
  exact ⟨t, st.trans a1, b1⟩
end Rows
section Ends
variable {p : Program} {l : Launch} {e : Env} {R : Room} {s : State} {m : MethodId} {args : Array Value} {below : List Frame} {meth : Method} {c : Code} {H : Heap} {locs : List Loc} {cells slots : Nat} {Q : State → Prop}
variable {mc ms : Nat} {free : Addr → Prop} {A0 A1 : Nat → Prop} {H0 : Heap} {a : Array Value} {ls : Array Slot} {st0 rest : List Value}
variable {Qc : Array Value → State → Outcome → State → Prop} {XC : String → State → State → Prop}
/-- what a body that may throw owes at its end -/
def vx_MQ (below : List Frame) (Qc : Array Value → State → Outcome → State → Prop) (XC : String → State → State → Prop) (a : Array Value) (s : State) (mc ms : Nat) (free : Addr → Prop) : State → Prop := fun t =>
  ∃ o, t.status = .running ∧ Ended t below o ∧ vx_Q Qc XC mc ms free a s o t
theorem vx_ret {g : JFrame} {mc ms : Nat} (k : W p l e R s m args below meth c H locs cells slots (MQ below Qc args s mc ms free) g) : W p l e R s m args below meth c H locs cells slots (vx_MQ below Qc XC args s mc ms free) g := by
  intro T hT X
  obtain ⟨t, a1, o, b1, b2, b3, b4⟩ := k T hT X
  exact ⟨t, a1, o, b1, b2, Or.inl ⟨b3, b4⟩⟩
/-- not caught here: it goes on to the caller -/
theorem vx_widen {g : JFrame} {q : Addr} {k n : Nat} (h1 : cells ≤ k) (h2 : slots ≤ n) (kk : vx_W p l e R s m args below meth c H locs k n Q g q) : vx_W p l e R s m args below meth c H locs cells slots Q g q := fun T hT X => kk T hT (stand_widen X h1 h2)
theorem vx_out {pc : Nat} {E : String} {ce : Cell} {q : Addr} {mc ms : Nat} (hout : ∀ x ∈ c.exceptionTable.toList, covers x pc = false) (hlocks : meth.locks = false) (hcell : H[q]? = some ce) (hv : ce.vm = .none) (hcl : s.vm.findClass E = some ce.cls)
    (hx : ∀ t : State, t.heap = H → s.vm.Alike t.vm → XC E s t) (hf : ∀ z ∈ locs, free z.base) (hc : cells ≤ mc) (hs : slots ≤ ms) :
    vx_W p l e R s m args below meth c H locs cells slots (vx_MQ below Qc XC args s mc ms free) (F0 m pc ls rest) q := by
  intro T hT X
  obtain ⟨st1, hrun, hend, hW, hsm⟩ := X.leaveThrown q (g := F0 m pc ls rest) rfl rfl rfl hout hlocks
  have hcell9 : (T.setFrames (.throwing q :: below)).heap[q]? = some ce := by
    show T.heap[q]? = some ce
    rw [hT]; exact hcell
  exact ⟨_, st1, .threw q, hrun, hend, Or.inr ⟨q, rfl, E, ce, locs, hx _ hT hW.alike, hcell9, hv, hcl, hW, hsm.mono hc hs, hf⟩⟩
theorem vx_frame {U : State} {k n : Nat} (h : s.sameButNew ({ U with vm := s.vm } : State) locs k n) : s.heap.size ≤ U.heap.size ∧ ∀ q : Nat, q < s.heap.size → (∀ z ∈ locs, z.base ≠ q) → U.heap[q]? = s.heap[q]? := by
  obtain ⟨-, h2, -, -, -, h6⟩ := h
  refine ⟨h2, fun q hq hz => ?_⟩
  obtain ⟨c9, e1, e2, e3, e4⟩ := h6 q _ (Array.getElem?_eq_getElem hq)
  have hs : c9.slots = (s.heap[q]).slots := Array.ext_getElem? fun i => e4 i fun hm => hz _ hm rfl
  have h9 : c9 = s.heap[q] := by
    rw [hs] at e2
    exact e2
  have e5 : U.heap[q]? = some c9 := e1
  rw [e5, h9, Array.getElem?_eq_getElem hq]
/-- the words of a throw but the four that speak of the heap -/
def vx_no (w : Cond) : Bool := decide (w ≠ .isRef (.static Bundle.tN "UNASSIGNED_STACK" Bundle.steD)) && decide (w ≠ .isRef (.static Bundle.tN "SUPPRESSED_SENTINEL" Bundle.listD)) && decide (w ≠ .laysStatic Bundle.tN "UNASSIGNED_STACK" Bundle.steD) && decide (w ≠ .laysStatic Bundle.tN "SUPPRESSED_SENTINEL" Bundle.listD)
def vx_at0 (own : String) (ic : Nat) (X : String) (names : List String) : List Cond := (Bundle.ownAtoms0 own ic X names).filter vx_no
def vx_atS (own : String) (ic : Nat) (X : String) (names : List String) : List Cond := (Bundle.ownAtoms own ic X names).filter vx_no
/-- a word that the tables alone decide, or a good one -/
def vx_ot (w : Cond) : Bool := w.onTables || goodWord w
theorem vx_ot_at {args a' : Array Value} {s U : State} {w : Cond} (hW : s.WarmedH U.vm) (hvm : s.vm = U.vm) (hg : vx_ot w = true) (h : w.before args s = true) : w.before a' U = true := by
  simp only [vx_ot, Bool.or_eq_true] at hg
  rcases hg with hg | hg
  · exact va_tabs hg hvm h
  · exact word_at hW (good_of_word hg) h
/-- a list's words: the good ones out of the method's own list, the others by premises of their own -/
theorem vx_hat {args : Array Value} {s : State} {L B : List Cond} (h1 : ∀ w ∈ L.filter goodWord, w.before args s = true) (h2 : ∀ w ∈ L.filter (fun w => !goodWord w), w ∈ B) (h3 : ∀ w ∈ B, w.before args s = true) : ∀ w ∈ L, w.before args s = true := by
  intro w hw
  by_cases g : goodWord w = true
  · exact h1 w (List.mem_filter.mpr ⟨hw, g⟩)
  · refine h3 w (h2 w (List.mem_filter.mpr ⟨hw, ?_⟩))
    show (!goodWord w) = true
    cases hgw : goodWord w
    · rfl
    · exact absurd hgw g
theorem vx_c {args : Array Value} {s : State} {w : Cond} {B : List Cond} (h : w.before args s = true) (t : ∀ w ∈ B, w.before args s = true) : ∀ w' ∈ w :: B, w'.before args s = true := fun w' h' => (List.mem_cons.mp h').elim (fun e => by rw [e]; exact h) (t w')
theorem vx_n {args : Array Value} {s : State} : ∀ w ∈ ([] : List Cond), w.before args s = true := fun _ h => nomatch h
theorem vx_own {args : Array Value} {s : State} {L : List Cond} (h1 : ∀ w ∈ L.filter vx_no, w.before args s = true)
    (hU : (Cond.isRef (.static Bundle.tN "UNASSIGNED_STACK" Bundle.steD)).before args s = true) (hN : (Cond.isRef (.static Bundle.tN "SUPPRESSED_SENTINEL" Bundle.listD)).before args s = true)
    (lU : (Cond.laysStatic Bundle.tN "UNASSIGNED_STACK" Bundle.steD).before args s = true) (lN : (Cond.laysStatic Bundle.tN "SUPPRESSED_SENTINEL" Bundle.listD).before args s = true) : ∀ w ∈ L, w.before args s = true := by
  intro w hw
  by_cases e1 : w = .isRef (.static Bundle.tN "UNASSIGNED_STACK" Bundle.steD)
  · rw [e1]; exact hU
  · by_cases e2 : w = .isRef (.static Bundle.tN "SUPPRESSED_SENTINEL" Bundle.listD)
    · rw [e2]; exact hN
    · by_cases e3 : w = .laysStatic Bundle.tN "UNASSIGNED_STACK" Bundle.steD
      · rw [e3]; exact lU
      · by_cases e4 : w = .laysStatic Bundle.tN "SUPPRESSED_SENTINEL" Bundle.listD
        · rw [e4]; exact lN
        · exact h1 w (List.mem_filter.mpr ⟨hw, by unfold vx_no; rw [decide_eq_true e1, decide_eq_true e2, decide_eq_true e3, decide_eq_true e4]; rfl⟩)
/-- where a static field lies, its class's statics cell in H -/
def vx_L (C n d : String) (A : Nat → Prop) (U : State) (H : Heap) : Prop := ∃ (c : ClassId) (k : Class) (i : Nat) (f : Field) (a : Nat) (cell : Cell), U.vm.findClass C = some c ∧ U.fieldFound? C n d = some (c, k, i, f) ∧ f.isStatic = true ∧ k.statics = some a ∧ H[a]? = some cell ∧ cell.vm.isStatics = true ∧ cell.cls = c ∧ f.slot < cell.slots.size ∧ k.staticTypes[f.slot]? = some f.type ∧ ¬ A a
theorem vx_L.moved {C n d : String} {A : Nat → Prop} {u U : State} {H : Heap} (hvm : u.vm.Alike U.vm) (h : vx_L C n d A u H) : vx_L C n d A U H := by
  obtain ⟨c, k, i, f, a, cell, h1, h2, h3, h4, h5, h6, h7, h8, h9, h10⟩ := h
  obtain ⟨k', hi', he⟩ := State.fieldFound?_setVm hvm h2
  exact ⟨c, k', i, f, a, cell, by rw [hvm.findClass]; exact h1, hi', h3, by rw [he]; exact h4, h5, h6, h7, h8, by rw [he]; exact h9, h10⟩
theorem vx_L.kept {C n d : String} {A : Nat → Prop} {U : State} {H H1 : Heap} (h : vx_L C n d A U H) (hq : ∀ a : Nat, a < H.size → ¬ A a → H1[a]? = H[a]?) : vx_L C n d A U H1 := by
  obtain ⟨c, k, i, f, a, cell, h1, h2, h3, h4, h5, h6, h7, h8, h9, h10⟩ := h
  exact ⟨c, k, i, f, a, cell, h1, h2, h3, h4, by rw [hq a (Array.getElem?_eq_some_iff.mp h5).1 h10]; exact h5, h6, h7, h8, h9, h10⟩
theorem vx_L.narrow {C n d : String} {A B : Nat → Prop} {U : State} {H : Heap} (h : vx_L C n d A U H) (hAB : ∀ q, B q → A q) : vx_L C n d B U H := by
  obtain ⟨c, k, i, f, a, cell, h1, h2, h3, h4, h5, h6, h7, h8, h9, h10⟩ := h
  exact ⟨c, k, i, f, a, cell, h1, h2, h3, h4, h5, h6, h7, h8, h9, fun z => h10 (hAB _ z)⟩
theorem vx_L.word {C n d : String} {A : Nat → Prop} {s : State} {args : Array Value} (h : vx_L C n d A s s.heap) : (Cond.laysStatic C n d).before args s = true := by
  obtain ⟨c, k, i, f, a, cell, h1, h2, h3, h4, h5, h6, h7, h8, h9, -⟩ := h
  show (Cond.laysStatic C n d).holds args s none s [] = true
  exact Cond.laysStatic_of h1 h2 h3 h4 h5 h6 h7 h8 h9
/-- .. and what it holds: null or some reference -/
def vx_Zq (C n d : String) (A : Nat → Prop) (U : State) (H : Heap) : Prop := va_Zq C n d A U H ∧ vx_L C n d A U H
theorem vx_Zq.moved {C n d : String} {A : Nat → Prop} {u U : State} {H : Heap} (hvm : u.vm.Alike U.vm) (h : vx_Zq C n d A u H) : vx_Zq C n d A U H := ⟨va_Zq.moved hvm h.1, vx_L.moved hvm h.2⟩
theorem vx_Zq.kept {C n d : String} {A : Nat → Prop} {U : State} {H H1 : Heap} (h : vx_Zq C n d A U H) (hq : ∀ a : Nat, a < H.size → ¬ A a → H1[a]? = H[a]?) : vx_Zq C n d A U H1 := ⟨va_Zq.kept h.1 hq, vx_L.kept h.2 hq⟩
theorem vx_Zq.narrow {C n d : String} {A B : Nat → Prop} {U : State} {H : Heap} (h : vx_Zq C n d A U H) (hAB : ∀ q, B q → A q) : vx_Zq C n d B U H := ⟨va_Zq.narrow h.1 hAB, vx_L.narrow h.2 hAB⟩
theorem vx_Zqof {args : Array Value} {s : State} {C n d : String} {A : Nat → Prop} (hl : (Cond.laysStatic C n d).before args s = true) (hini : (Cond.initialized C).before args s = true) (h : (Cond.isRef (.static C n d)).before args s = true) (hA : ∀ a : Nat, a < s.heap.size → ¬ A a) : vx_Zq C n d A s s.heap := by
  refine ⟨va_Zqof hl hini h hA, ?_⟩
  obtain ⟨c, k, i, f, a, cell, h1, h2, h3, h4, h5, h6, h7, h8, h9⟩ := Cond.laysStatic_spec hl
  exact ⟨c, k, i, f, a, cell, h1, h2, h3, h4, h5, h6, h7, h8, h9, hA a (Array.getElem?_eq_some_iff.mp h5).1⟩
theorem vx_isRef {C n d : String} {v : Value} {A : Nat → Prop} {s : State} {args : Array Value} (h : va_Z C n d v A s s.heap) (hv : v.isRef = true) : (Cond.isRef (.static C n d)).before args s = true := by
  obtain ⟨cf, kf, fi, f, a, cell, h1, h2, h3, h4, h5, h6, h7, -⟩ := h
  have he : (Term.static C n d).eval args s none [] s = some v := by
    simp [Term.eval, State.fieldNamed?, h1, h2, h4, h5, h6, h7]
  simp only [Cond.before, Cond.holds, Cond.value, he]
  cases v <;> simp_all [Value.isRef]
theorem vx_isRefq {C n d : String} {A : Nat → Prop} {s : State} {args : Array Value} (h : va_Zq C n d A s s.heap) : (Cond.isRef (.static C n d)).before args s = true := by
  rcases h with h | ⟨t, h⟩
  · exact vx_isRef h rfl
  · exact vx_isRef h rfl
/-- the same frame, seen from here: as if the method were called anew in this heap -/
theorem vx_rebase {T : State} (X : Stand p l e R s m args below meth c T locs cells slots) {R' : Room} (hf : R'.frames ≤ R.frames) (hl : R'.locals ≤ R.locals) (hc : cells + R'.cells ≤ R.cells) (hs : slots + R'.slots ≤ R.slots) :
    Stand p l e R' ((T.setVm s.vm).setFrames (.invoking m args :: below)) m args below meth c T [] 0 0 := by
  have htop : (T.setVm s.vm).topJava?.isSome := X.here.top
  have hF : ((T.setVm s.vm).setFrames (.invoking m args :: below)).frames = .invoking m args :: below := State.frames_setFrames _ (State.cur_lt_of_top htop)
  obtain ⟨g₀, hg0⟩ := Option.isSome_iff_exists.mp htop
  obtain ⟨r, hr⟩ := State.topJava?_eq_some.mp hg0
  have hl9 : e.platform.stackLimits (T.setVm s.vm).me = e.platform.stackLimits s.me := X.limits
  have hb9 : (T.setVm s.vm).me.stackBytes = s.me.stackBytes := X.bytes
  refine ⟨X.admits, X.cas, X.clock, hF, ?_, X.hears, X.method, X.code, X.here, X.tail, X.warmed, ?_, ?_, ?_⟩
  · have h := X.room
    have hU : ((T.setVm s.vm).setFrames (.invoking m args :: below)).localsInUse = s.localsInUse := by
      rw [State.localsInUse_invoking hF (meth := meth) (c := c) X.method X.code, State.localsInUse_invoking X.frames X.method X.code]
    simp only [State.hasRoom, Bool.and_eq_true, decide_eq_true_eq] at h ⊢
    obtain ⟨⟨⟨⟨h1, h2, h3, h4, h5, h6⟩, h7⟩, h8⟩, h9⟩ := h
    rw [X.frames, List.length_cons] at h2 h3
    have q1 := X.heapSize
    have q2 := X.used
    simp only [hF, hU, List.length_cons, State.stackLimits_setFrames, State.stackBytes_setFrames, hl9, hb9]
    refine ⟨⟨⟨⟨by omega, by omega, by omega, by omega, by omega, h6⟩, ?_⟩, ?_⟩, X.book⟩
    · show T.heap.size + R'.cells ≤ e.platform.maxCells
      omega
    · show T.slotsUsed + R'.slots ≤ e.platform.maxSlots
      omega
  · rw [State.stackLimits_setFrames]; rfl
  · rw [State.stackBytes_setFrames]; rfl
  · refine ⟨?_, Nat.le_refl _, Nat.le_refl _, ?_, ?_, fun a c9 h9 => ⟨c9, h9, rfl, rfl, fun _ _ => rfl⟩⟩
    · obtain ⟨t, ht, -⟩ := State.frames_cons hr
      show T.setVm s.vm = { ((T.setVm s.vm).setFrames (.invoking m args :: below)).setFrames (T.setVm s.vm).frames with heap := T.heap, slotsUsed := T.slotsUsed }
      rw [State.setFrames_setFrames, State.setFrames_self ht]
      rfl
    · show T.slotsUsed = T.slotsUsed + ((T.heap.toList.drop T.heap.size).map (·.slots.size)).sum
      rw [List.drop_eq_nil_of_le (Nat.le_of_eq Array.length_toList)]
      rfl
    · show ((T.heap.toList.drop T.heap.size).map (·.slots.size)).sum ≤ 0
      rw [List.drop_eq_nil_of_le (Nat.le_of_eq Array.length_toList)]
      exact Nat.le_refl _
/-- 'throw new E()': new; dup; invokespecial; athrow -/
theorem vx_throw0 {cc : ByteArray} {pc : Nat} (hexec : p.tables.exec = Jvm.exec) (hb : c.code = cc) (hl : l.stackTraces = false) {own cls : String} {names : List String} {ik ic mc ms : Nat} {A : Nat → Prop}
    (hown : s.vm.findClass own = some m.cls) (hcls : Bundle.fit cls = true) (hnames : ∀ n ∈ names, Bundle.fit n = true)
    (hk : (Cond.classLink own ik cls).before args s = true) (hini : (Cond.initialized cls).before args s = true) (hat : ∀ w ∈ vx_at0 own ic cls names, w.before args s = true)
    (hgood : ∀ w ∈ Cond.classLink own ik cls :: Cond.initialized cls :: vx_at0 own ic cls names, vx_ot w = true)
    (hU : vx_Zq Bundle.tN "UNASSIGNED_STACK" Bundle.steD A s s.heap) (hN : vx_Zq Bundle.tN "SUPPRESSED_SENTINEL" Bundle.listD A s s.heap) (hS : va_S A s.heap H locs) (hsize : ls.size = c.maxLocals)
    (d0 : decode cc pc = .ok (.new ik, 3)) (d3 : decode cc (pc + 3) = .ok (.dup, 1)) (d4 : decode cc (pc + 4) = .ok (.invokespecial ic, 3)) (d7 : decode cc (pc + 7) = .ok (.athrow, 1))
    (hout : ∀ x ∈ c.exceptionTable.toList, covers x (pc + 7) = false)
    (hRframes : names.length + 3 < R.frames) (hRlocals : (rest.map fun v => v.category).sum + (13 * (names.length + 1) + 42) ≤ R.locals) (hRcells : cells + 1 ≤ R.cells) (hRslots : slots + 6 ≤ R.slots) (hlocks : meth.locks = false)
    (hx : ∀ t : State, s.vm.Alike t.vm → H.size ≤ t.heap.size → (∀ q : Nat, q < H.size → t.heap[q]? = H[q]?) → XC cls s t)
    (hf : ∀ z ∈ locs, free z.base) (hc : cells + 1 ≤ mc) (hs : slots + 6 ≤ ms) :
    W p l e R s m args below meth c H locs cells slots (vx_MQ below Qc XC args s mc ms free) (F0 m pc ls rest) := by
  intro T hT X
  have htr : e.platform.stackTraces = false := (show e.platform.stackTraces = l.stackTraces by rw [X.admits.platform]).trans hl
  have Y := vx_rebase X (R' := { frames := R.frames, locals := R.locals, cells := 1, slots := 6 }) (Nat.le_refl _) (Nat.le_refl _) hRcells hRslots
  obtain ⟨s', hA⟩ : ∃ z, z = (T.setVm s.vm).setFrames (.invoking m args :: below) := ⟨_, rfl⟩
  rw [← hA] at Y
  have hvm : s'.vm = s.vm := by rw [hA]; rfl
  have hhp : s'.heap = H := by rw [hA]; exact hT
  have hW0 : s.WarmedH s'.vm := by rw [hvm]; exact State.WarmedH.refl s
  have hat' : ∀ w ∈ vx_at0 own ic cls names, w.before args s' = true := fun w hw => vx_ot_at hW0 hvm.symm (hgood w (List.mem_cons_of_mem _ (List.mem_cons_of_mem _ hw))) (hat w hw)
  have hk' : (Cond.classLink own ik cls).before args s' = true := vx_ot_at hW0 hvm.symm (hgood _ List.mem_cons_self) hk
  have hini' : (Cond.initialized cls).before args s' = true := vx_ot_at hW0 hvm.symm (hgood _ (List.mem_cons_of_mem _ List.mem_cons_self)) hini
  have hU' : vx_Zq Bundle.tN "UNASSIGNED_STACK" Bundle.steD A s' s'.heap := by rw [hhp]; exact vx_Zq.moved hW0.alike (hU.kept hS.2.1)
  have hN' : vx_Zq Bundle.tN "SUPPRESSED_SENTINEL" Bundle.listD A s' s'.heap := by rw [hhp]; exact vx_Zq.moved hW0.alike (hN.kept hS.2.1)
  have h : ∀ w ∈ Bundle.ownAtoms0 own ic cls names, w.before args s' = true := vx_own hat' (vx_isRefq hU'.1) (vx_isRefq hN'.1) hU'.2.word hN'.2.word
  have hown' : s'.vm.findClass own = some m.cls := by rw [hvm]; exact hown
  have hins : (Cond.instantiable cls 6).before args s' = true := h _ (by simp [Bundle.ownAtoms0])
  obtain ⟨vm₁, cX, kX, hfX, hkX, -, -, X₁, st1⟩ := Y.newCold hexec (own := own) (C := cls) (index := ik) (n := 6) hown' hk' hins hini'
    (g := F0 m pc ls rest) rfl (by rw [hb]; exact d0) (Nat.le_refl _) (Nat.le_refl _)
  generalize hT1 : (T.setVm vm₁).pushCell { cls := cX, slots := kX.instanceTypes.map defaultValue, vm := .none } = T1 at X₁ st1
  have hcat : (Value.ref T.heap.size).category = 1 := rfl
  have hcellA : T1.heap[T.heap.size]? = some (freshCell cX kX) := by rw [← hT1]; exact State.heap_pushCell_size _ _
  have d3' : decode c.code (pc + 3) = .ok (.dup, 1) := by rw [hb]; exact d3
  obtain ⟨U, hsteps, hrun, hend, hW, hsame, ce, hce, hO⟩ := X₁.ctorThrow0 hexec htr (own := own) (cls := cls) (names := names) (ic := ic) hown' hcls hnames h (fun x hx => nomatch hx) hfX hkX hcellA (by rw [hhp, hT]; exact Nat.le_refl _)
    (g := { method := m, pc := pc + 4, locals := ls, stack := .ref T.heap.size :: .ref T.heap.size :: rest, locked := none }) rfl hsize rfl rfl (rest := rest) rfl
    (by rw [hb]; exact d4) (by rw [hb]; exact d7) hout hRframes (by simp only [List.map_cons, List.sum_cons, hcat]; omega) hlocks
  obtain ⟨f1, f2⟩ := vx_frame hsame
  rw [hhp] at f1 f2
  have hWs : s.WarmedH U.vm := State.WarmedH.trans hW0 hW
  have hcl : s.vm.findClass cls = some ce.cls := by
    have h9 := hO.cls
    rw [hvm] at h9
    exact h9
  have hall : s.sameButNew ({ U with vm := s.vm } : State) locs mc ms := by
    subst hA
    obtain ⟨e1, e2⟩ := hsame
    rw [State.setFrames_setFrames] at e1
    have h2 : (T.setVm s.vm).sameButNew ({ U with vm := s.vm } : State) [] (0 + 1) (0 + 6) := ⟨e1, e2⟩
    have h3 := X.same.trans h2
    rw [List.append_nil] at h3
    exact h3.mono hc hs
  refine ⟨U, ?_, .threw T.heap.size, hrun, hend, Or.inr ⟨T.heap.size, rfl, cls, ce, locs, hx U hWs.alike f1 (fun q hq => f2 q hq (fun z hz => nomatch hz)), hce, hO.vm, hcl, hWs, hall, hf⟩⟩
  refine st1 _ ?_
  show Steps p.tables e below (T1.setTop { method := m, pc := pc + 3, locals := ls, stack := .ref T.heap.size :: rest, locked := none }) _
  jvm_step X₁.here [X₁.here.top, hexec, d3', Value.category]
  exact hsteps
/-- 'throw new E("text")': new; dup; ldc; invokespecial; athrow -/
theorem vx_throwS {cc : ByteArray} {pc : Nat} (hexec : p.tables.exec = Jvm.exec) (hb : c.code = cc) (hl : l.stackTraces = false) {own cls text : String} {names : List String} {ik is ic mc ms sa : Nat} {A : Nat → Prop}
    (hown : s.vm.findClass own = some m.cls) (hcls : Bundle.fit cls = true) (hnames : ∀ n ∈ names, Bundle.fit n = true)
    (hk : (Cond.classLink own ik cls).before args s = true) (hini : (Cond.initialized cls).before args s = true) (hstr : vk_R own is text sa s) (hat : ∀ w ∈ vx_atS own ic cls names, w.before args s = true)
    (hgood : ∀ w ∈ Cond.classLink own ik cls :: Cond.initialized cls :: vx_atS own ic cls names, vx_ot w = true)
    (hU : vx_Zq Bundle.tN "UNASSIGNED_STACK" Bundle.steD A s s.heap) (hN : vx_Zq Bundle.tN "SUPPRESSED_SENTINEL" Bundle.listD A s s.heap) (hS : va_S A s.heap H locs) (hsize : ls.size = c.maxLocals)
    (d0 : decode cc pc = .ok (.new ik, 3)) (d3 : decode cc (pc + 3) = .ok (.dup, 1)) (d4 : decode cc (pc + 4) = .ok (.ldc is, 2)) (d6 : decode cc (pc + 6) = .ok (.invokespecial ic, 3)) (d9 : decode cc (pc + 9) = .ok (.athrow, 1))
    (hout : ∀ x ∈ c.exceptionTable.toList, covers x (pc + 9) = false)
    (hRframes : names.length + 3 < R.frames) (hRlocals : (rest.map fun v => v.category).sum + (13 * (names.length + 1) + 43) ≤ R.locals) (hRcells : cells + 1 ≤ R.cells) (hRslots : slots + 6 ≤ R.slots) (hlocks : meth.locks = false)
    (hx : ∀ t : State, s.vm.Alike t.vm → H.size ≤ t.heap.size → (∀ q : Nat, q < H.size → t.heap[q]? = H[q]?) → XC cls s t)
    (hf : ∀ z ∈ locs, free z.base) (hc : cells + 1 ≤ mc) (hs : slots + 6 ≤ ms) :
    W p l e R s m args below meth c H locs cells slots (vx_MQ below Qc XC args s mc ms free) (F0 m pc ls rest) := by
  intro T hT X
  have htr : e.platform.stackTraces = false := (show e.platform.stackTraces = l.stackTraces by rw [X.admits.platform]).trans hl
  have Y := vx_rebase X (R' := { frames := R.frames, locals := R.locals, cells := 1, slots := 6 }) (Nat.le_refl _) (Nat.le_refl _) hRcells hRslots
  obtain ⟨s', hA⟩ : ∃ z, z = (T.setVm s.vm).setFrames (.invoking m args :: below) := ⟨_, rfl⟩
  rw [← hA] at Y
  have hvm : s'.vm = s.vm := by rw [hA]; rfl
  have hhp : s'.heap = H := by rw [hA]; exact hT
  have hW0 : s.WarmedH s'.vm := by rw [hvm]; exact State.WarmedH.refl s
  have hat' : ∀ w ∈ vx_atS own ic cls names, w.before args s' = true := fun w hw => vx_ot_at hW0 hvm.symm (hgood w (List.mem_cons_of_mem _ (List.mem_cons_of_mem _ hw))) (hat w hw)
  have hk' : (Cond.classLink own ik cls).before args s' = true := vx_ot_at hW0 hvm.symm (hgood _ List.mem_cons_self) hk
  have hini' : (Cond.initialized cls).before args s' = true := vx_ot_at hW0 hvm.symm (hgood _ (List.mem_cons_of_mem _ List.mem_cons_self)) hini
  have hU' : vx_Zq Bundle.tN "UNASSIGNED_STACK" Bundle.steD A s' s'.heap := by rw [hhp]; exact vx_Zq.moved hW0.alike (hU.kept hS.2.1)
  have hN' : vx_Zq Bundle.tN "SUPPRESSED_SENTINEL" Bundle.listD A s' s'.heap := by rw [hhp]; exact vx_Zq.moved hW0.alike (hN.kept hS.2.1)
  have h : ∀ w ∈ Bundle.ownAtoms own ic cls names, w.before args s' = true := vx_own hat' (vx_isRefq hU'.1) (vx_isRefq hN'.1) hU'.2.word hN'.2.word
  have hown' : s'.vm.findClass own = some m.cls := by rw [hvm]; exact hown
  have hins : (Cond.instantiable cls 6).before args s' = true := h _ (by simp [Bundle.ownAtoms])
  obtain ⟨vm₁, cX, kX, hfX, hkX, -, -, X₁, st1⟩ := Y.newCold hexec (own := own) (C := cls) (index := ik) (n := 6) hown' hk' hins hini'
    (g := F0 m pc ls rest) rfl (by rw [hb]; exact d0) (Nat.le_refl _) (Nat.le_refl _)
  generalize hT1 : (T.setVm vm₁).pushCell { cls := cX, slots := kX.instanceTypes.map defaultValue, vm := .none } = T1 at X₁ st1
  have hcat : (Value.ref T.heap.size).category = 1 := rfl
  have hcellA : T1.heap[T.heap.size]? = some (freshCell cX kX) := by rw [← hT1]; exact State.heap_pushCell_size _ _
  have d3' : decode c.code (pc + 3) = .ok (.dup, 1) := by rw [hb]; exact d3
  have d4' : decode c.code (pc + 4) = .ok (.ldc is, 2) := by rw [hb]; exact d4
  have hstr' : vk_R own is text sa s' := vk_R.warm hW0 hstr
  obtain ⟨U, hsteps, hrun, hend, hW, hsame, ce, hce, hO⟩ := X₁.ctorThrowS hexec htr (own := own) (cls := cls) (names := names) (ic := ic) hown' hcls hnames h (fun x hx => nomatch hx) hfX hkX hcellA (by rw [hhp, hT]; exact Nat.le_refl _) (msg := .ref sa) rfl
    (g := { method := m, pc := pc + 6, locals := ls, stack := .ref sa :: .ref T.heap.size :: .ref T.heap.size :: rest, locked := none }) rfl hsize rfl rfl (rest := rest) rfl
    (by rw [hb]; exact d6) (by rw [hb]; exact d9) hout hRframes (by simp only [List.map_cons, List.sum_cons, hcat]; omega) hlocks
  obtain ⟨f1, f2⟩ := vx_frame hsame
  rw [hhp] at f1 f2
  have hWs : s.WarmedH U.vm := State.WarmedH.trans hW0 hW
  have hcl : s.vm.findClass cls = some ce.cls := by
    have h9 := hO.cls
    rw [hvm] at h9
    exact h9
  have hall : s.sameButNew ({ U with vm := s.vm } : State) locs mc ms := by
    subst hA
    obtain ⟨e1, e2⟩ := hsame
    rw [State.setFrames_setFrames] at e1
    have h2 : (T.setVm s.vm).sameButNew ({ U with vm := s.vm } : State) [] (0 + 1) (0 + 6) := ⟨e1, e2⟩
    have h3 := X.same.trans h2
    rw [List.append_nil] at h3
    exact h3.mono hc hs
  refine ⟨U, ?_, .threw T.heap.size, hrun, hend, Or.inr ⟨T.heap.size, rfl, cls, ce, locs, hx U hWs.alike f1 (fun q hq => f2 q hq (fun z hz => nomatch hz)), hce, hO.vm, hcl, hWs, hall, hf⟩⟩
  refine st1 _ ?_
  show Steps p.tables e below (T1.setTop { method := m, pc := pc + 3, locals := ls, stack := .ref T.heap.size :: rest, locked := none }) _
  jvm_step X₁.here [X₁.here.top, hexec, d3', Value.category]
  exact X₁.ldcString hexec (own := own) (text := text) (index := is) (a := sa) hown' hstr'.1 hstr'.2
    (g := { method := m, pc := pc + 4, locals := ls, stack := .ref T.heap.size :: .ref T.heap.size :: rest, locked := none }) rfl d4' _ hsteps
/-- 'throw new E("text")', the text by a wide index -/
theorem vx_throwSW {cc : ByteArray} {pc : Nat} (hexec : p.tables.exec = Jvm.exec) (hb : c.code = cc) (hl : l.stackTraces = false) {own cls text : String} {names : List String} {ik is ic mc ms sa : Nat} {A : Nat → Prop}
    (hown : s.vm.findClass own = some m.cls) (hcls : Bundle.fit cls = true) (hnames : ∀ n ∈ names, Bundle.fit n = true)
    (hk : (Cond.classLink own ik cls).before args s = true) (hini : (Cond.initialized cls).before args s = true) (hstr : vk_R own is text sa s) (hat : ∀ w ∈ vx_atS own ic cls names, w.before args s = true)
    (hgood : ∀ w ∈ Cond.classLink own ik cls :: Cond.initialized cls :: vx_atS own ic cls names, vx_ot w = true)
    (hU : vx_Zq Bundle.tN "UNASSIGNED_STACK" Bundle.steD A s s.heap) (hN : vx_Zq Bundle.tN "SUPPRESSED_SENTINEL" Bundle.listD A s s.heap) (hS : va_S A s.heap H locs) (hsize : ls.size = c.maxLocals)
    (d0 : decode cc pc = .ok (.new ik, 3)) (d3 : decode cc (pc + 3) = .ok (.dup, 1)) (d4 : decode cc (pc + 4) = .ok (.ldc_w is, 3)) (d7 : decode cc (pc + 7) = .ok (.invokespecial ic, 3)) (d10 : decode cc (pc + 10) = .ok (.athrow, 1))
    (hout : ∀ x ∈ c.exceptionTable.toList, covers x (pc + 10) = false)
    (hRframes : names.length + 3 < R.frames) (hRlocals : (rest.map fun v => v.category).sum + (13 * (names.length + 1) + 43) ≤ R.locals) (hRcells : cells + 1 ≤ R.cells) (hRslots : slots + 6 ≤ R.slots) (hlocks : meth.locks = false)
    (hx : ∀ t : State, s.vm.Alike t.vm → H.size ≤ t.heap.size → (∀ q : Nat, q < H.size → t.heap[q]? = H[q]?) → XC cls s t)
    (hf : ∀ z ∈ locs, free z.base) (hc : cells + 1 ≤ mc) (hs : slots + 6 ≤ ms) :
    W p l e R s m args below meth c H locs cells slots (vx_MQ below Qc XC args s mc ms free) (F0 m pc ls rest) := by
  intro T hT X
  have htr : e.platform.stackTraces = false := (show e.platform.stackTraces = l.stackTraces by rw [X.admits.platform]).trans hl
  have Y := vx_rebase X (R' := { frames := R.frames, locals := R.locals, cells := 1, slots := 6 }) (Nat.le_refl _) (Nat.le_refl _) hRcells hRslots
  obtain ⟨s', hA⟩ : ∃ z, z = (T.setVm s.vm).setFrames (.invoking m args :: below) := ⟨_, rfl⟩
  rw [← hA] at Y
  have hvm : s'.vm = s.vm := by rw [hA]; rfl
  have hhp : s'.heap = H := by rw [hA]; exact hT
  have hW0 : s.WarmedH s'.vm := by rw [hvm]; exact State.WarmedH.refl s
  have hat' : ∀ w ∈ vx_atS own ic cls names, w.before args s' = true := fun w hw => vx_ot_at hW0 hvm.symm (hgood w (List.mem_cons_of_mem _ (List.mem_cons_of_mem _ hw))) (hat w hw)
  have hk' : (Cond.classLink own ik cls).before args s' = true := vx_ot_at hW0 hvm.symm (hgood _ List.mem_cons_self) hk
  have hini' : (Cond.initialized cls).before args s' = true := vx_ot_at hW0 hvm.symm (hgood _ (List.mem_cons_of_mem _ List.mem_cons_self)) hini
  have hU' : vx_Zq Bundle.tN "UNASSIGNED_STACK" Bundle.steD A s' s'.heap := by rw [hhp]; exact vx_Zq.moved hW0.alike (hU.kept hS.2.1)
  have hN' : vx_Zq Bundle.tN "SUPPRESSED_SENTINEL" Bundle.listD A s' s'.heap := by rw [hhp]; exact vx_Zq.moved hW0.alike (hN.kept hS.2.1)
  have h : ∀ w ∈ Bundle.ownAtoms own ic cls names, w.before args s' = true := vx_own hat' (vx_isRefq hU'.1) (vx_isRefq hN'.1) hU'.2.word hN'.2.word
  have hown' : s'.vm.findClass own = some m.cls := by rw [hvm]; exact hown
  have hins : (Cond.instantiable cls 6).before args s' = true := h _ (by simp [Bundle.ownAtoms])
  obtain ⟨vm₁, cX, kX, hfX, hkX, -, -, X₁, st1⟩ := Y.newCold hexec (own := own) (C := cls) (index := ik) (n := 6) hown' hk' hins hini'
    (g := F0 m pc ls rest) rfl (by rw [hb]; exact d0) (Nat.le_refl _) (Nat.le_refl _)
  generalize hT1 : (T.setVm vm₁).pushCell { cls := cX, slots := kX.instanceTypes.map defaultValue, vm := .none } = T1 at X₁ st1
  have hcat : (Value.ref T.heap.size).category = 1 := rfl
  have hcellA : T1.heap[T.heap.size]? = some (freshCell cX kX) := by rw [← hT1]; exact State.heap_pushCell_size _ _
  have d3' : decode c.code (pc + 3) = .ok (.dup, 1) := by rw [hb]; exact d3
  have d4' : decode c.code (pc + 4) = .ok (.ldc_w is, 3) := by rw [hb]; exact d4
  have hstr' : vk_R own is text sa s' := vk_R.warm hW0 hstr
  obtain ⟨U, hsteps, hrun, hend, hW, hsame, ce, hce, hO⟩ := X₁.ctorThrowS hexec htr (own := own) (cls := cls) (names := names) (ic := ic) hown' hcls hnames h (fun x hx => nomatch hx) hfX hkX hcellA (by rw [hhp, hT]; exact Nat.le_refl _) (msg := .ref sa) rfl
    (g := { method := m, pc := pc + 7, locals := ls, stack := .ref sa :: .ref T.heap.size :: .ref T.heap.size :: rest, locked := none }) rfl hsize rfl rfl (rest := rest) rfl
    (by rw [hb]; exact d7) (by rw [hb]; exact d10) hout hRframes (by simp only [List.map_cons, List.sum_cons, hcat]; omega) hlocks
  obtain ⟨f1, f2⟩ := vx_frame hsame
  rw [hhp] at f1 f2
  have hWs : s.WarmedH U.vm := State.WarmedH.trans hW0 hW
  have hcl : s.vm.findClass cls = some ce.cls := by
    have h9 := hO.cls
    rw [hvm] at h9
    exact h9
  have hall : s.sameButNew ({ U with vm := s.vm } : State) locs mc ms := by
    subst hA
    obtain ⟨e1, e2⟩ := hsame
    rw [State.setFrames_setFrames] at e1
    have h2 : (T.setVm s.vm).sameButNew ({ U with vm := s.vm } : State) [] (0 + 1) (0 + 6) := ⟨e1, e2⟩
    have h3 := X.same.trans h2
    rw [List.append_nil] at h3
    exact h3.mono hc hs
  refine ⟨U, ?_, .threw T.heap.size, hrun, hend, Or.inr ⟨T.heap.size, rfl, cls, ce, locs, hx U hWs.alike f1 (fun q hq => f2 q hq (fun z hz => nomatch hz)), hce, hO.vm, hcl, hWs, hall, hf⟩⟩
  refine st1 _ ?_
  show Steps p.tables e below (T1.setTop { method := m, pc := pc + 3, locals := ls, stack := .ref T.heap.size :: rest, locked := none }) _
  jvm_step X₁.here [X₁.here.top, hexec, d3', Value.category]
  exact X₁.ldcStringW hexec (own := own) (text := text) (index := is) (a := sa) hown' hstr'.1 hstr'.2
    (g := { method := m, pc := pc + 4, locals := ls, stack := .ref T.heap.size :: .ref T.heap.size :: rest, locked := none }) rfl d4' _ hsteps
end Ends
section Bodies
variable {l : Launch}
theorem vx_ofW {y : MethodName} {ws ws' : List Cond} {rm : Room} {Pc : Array Value → State → Prop} {Qc : Array Value → State → Outcome → State → Prop} {XC : String → State → State → Prop} {mc ms : Nat} {free : Addr → Prop} {cc : ByteArray} {maxL : Nat} {ret : Option FieldType}
    (hy : plainName y.cls = true) (hw : ws = Cond.code y cc maxL ret :: ws')
    (body : ∀ p e s m args below meth c s₁, BodyLoose p l y (headSpec ws rm) cc maxL ret e s m args below meth c s₁ → c.maxLocals = maxL → (∀ x ∈ c.exceptionTable.toList, False) → Pc args s →
      W p l e (headSpec ws rm).room s m args below meth c s.heap [] 0 0 (vx_MQ below Qc XC args s mc ms free) (entryFrame m args maxL)) : vx_Met l y ws rm Pc Qc XC mc ms free := by
  refine MetFree.of_bodyS (code := cc) (maxLocals := maxL) (ret := ret) hy ?_ ?_
  · intro args s m h hn
    obtain ⟨meth, c, h1, h2, h3, h4, h5, h6, -, -⟩ := Cond.code_spec hn (atoms_spec (ws := ws) h _ (by rw [hw]; exact List.mem_cons_self))
    exact ⟨meth, c, h1, h2, h3, h4, h5, h6⟩
  · intro p e s m args below meth c s₁ B hml hP _
    have hh0 : s₁.heap = s.heap := by rw [B.state]; rfl
    have ht : ∀ x ∈ c.exceptionTable.toList, False := by
      obtain ⟨meth9, c9, h1, h2, -, -, -, -, h7, -⟩ := Cond.code_spec B.named (atoms_spec (ws := ws) B.pre _ (by rw [hw]; exact List.mem_cons_self))
      cases Option.some.inj (h1.symm.trans B.method)
      cases Option.some.inj (h2.symm.trans (Stand.of_body B).code)
      intro x hx
      rw [Array.isEmpty_iff.mp h7] at hx
      cases hx
    obtain ⟨t, a1, o, b1, b2, b3⟩ := body p e s m args below meth c s₁ B hml ht hP s₁ hh0 (Stand.of_body B)
    exact ⟨t, o, a1, b1, b2, b3⟩
/-- the table of a body with handlers -/
theorem vx_table {p : Program} {x y : MethodName} {S : Spec} {cc bytes : ByteArray} {maxL maxL' : Nat} {ret ret' : Option FieldType} {e : Env} {s s₁ : State} {m : MethodId} {args : Array Value} {below : List Frame} {meth : Method} {c : Code} {hh : List (Nat × Nat × Nat × Nat)}
    (B : BodyLoose p l y S cc maxL ret e s m args below meth c s₁) (h : (Cond.codeWith y bytes maxL' ret' hh).before args s = true) : c.exceptionTable.toList = tableOf hh := by
  obtain ⟨m9, meth9, c9, hn9, h1, h2, -, -, h6, -⟩ := Cond.codeWith_spec h
  cases Option.some.inj (hn9.symm.trans B.named)
  cases Option.some.inj (h1.symm.trans B.method)
  cases Option.some.inj (h2.symm.trans (Stand.of_body B).code)
  rw [← h6, table_eq]
end Bodies
end VXA
/-! ===== END ===== -/
/-! ===== BEGIN a static call of a method with an exception table ===== -/
section VXS
variable {p : Program} {l : Launch} {e : Env} {R : Room} {s : State} {m : MethodId} {args : Array Value} {below : List Frame} {meth : Method} {c : Code} {T : State} {H : Heap} {locs : List Loc} {cells slots : Nat}
abbrev vx_CSW (R : Room) (s : State) (args : Array Value) (own : String) (index : Nat) (y : MethodName) (bytes : ByteArray) (maxL : Nat) (ret : Option FieldType) (hh : List (Nat × Nat × Nat × Nat)) (ws : List Cond) (rm : Room) (mc ms n : Nat) : Prop :=
  (rm.cells = mc ∧ rm.slots = ms ∧ rm.frames + 1 ≤ R.frames ∧ 8 + (maxL + 11) + rm.locals ≤ R.locals ∧ (∀ w ∈ ws, ∀ (a' : Array Value) (U : State), s.WarmedH U.vm → w.before a' U = true) ∧ Cond.codeWith y bytes maxL ret hh ∈ ws) ∧
  (Cond.codeWith y bytes maxL ret hh).before args s = true ∧ (Cond.initialized y.cls).before args s = true ∧ (y.cls ≠ "java/lang/invoke/MethodHandle" ∧ y.cls ≠ "java/lang/invoke/VarHandle") ∧
  (∀ sig, parseMethodDescriptor y.desc = some sig → n = sig.parameters.length) ∧ (Cond.methodLink own index y).before args s = true ∧ (Cond.static y).before args s = true
theorem vx_cwSW {own : String} {index maxL mc ms : Nat} {y : MethodName} {bytes : ByteArray} {ret : Option FieldType} {hh : List (Nat × Nat × Nat × Nat)} {Ts ws ws' : List Cond} {rm : Room} (n : Nat) (ht : ∀ w ∈ Ts, w.before args s = true) (hT : GoodIn Ts (va_wsS own index y ws)) (hw : ws = Cond.codeWith y bytes maxL ret hh :: ws') (hrc : rm.cells = mc) (hrs : rm.slots = ms)
    (hd : y.cls ≠ "java/lang/invoke/MethodHandle" ∧ y.cls ≠ "java/lang/invoke/VarHandle" ∧ (parseMethodDescriptor y.desc).map (fun d => d.parameters.length) = some n) (hR : rm.frames + 1 ≤ R.frames ∧ 8 + (maxL + 11) + rm.locals ≤ R.locals) :
    vx_CSW R s args own index y bytes maxL ret hh ws rm mc ms n := by
  have ok : ∀ w ∈ va_wsS own index y ws, w.before args s = true := fun w h => ht w (hT w h).1
  have hG : GoodIn Ts ws := fun w h => hT w (by unfold va_wsS; exact List.mem_append_right _ h)
  have hc : Cond.codeWith y bytes maxL ret hh ∈ ws := by rw [hw]; exact List.mem_cons_self
  refine ⟨⟨hrc, hrs, hR.1, hR.2, pay_in ht hG, hc⟩, ht _ (hG _ hc).1, ok _ (by simp [va_wsS]), ⟨hd.1, hd.2.1⟩, fun sig h => ?_, ok _ (by simp [va_wsS]), ok _ (by simp [va_wsS])⟩
  have h2 := hd.2.2
  rw [h] at h2
  exact (Option.some.inj h2).symm
theorem vx_callSW (X : Stand p l e R s m args below meth c T locs cells slots) (hexec : p.tables.exec = Jvm.exec) {own : String} {index : Nat} {y : MethodName} {bytes : ByteArray} {maxL : Nat} {ret : Option FieldType} {hh : List (Nat × Nat × Nat × Nat)}
    (hown : s.vm.findClass own = some m.cls) (hlink : (Cond.methodLink own index y).before args s = true) (hstat : (Cond.static y).before args s = true) (hinit : (Cond.initialized y.cls).before args s = true)
    (hcode : (Cond.codeWith y bytes maxL ret hh).before args s = true) (hy : y.cls ≠ "java/lang/invoke/MethodHandle" ∧ y.cls ≠ "java/lang/invoke/VarHandle")
    {W9 : Nat} {Pre : Pt → Array Value → Prop} {Post : Pt → Array Value → Option Value → Pt → Prop} (hK : Back l R p e below s args y 3 W9 Pre Post)
    {g : JFrame} (hg : g.method = m) (hsize : g.locals.size = c.maxLocals) {argsL rest : List Value} (hlen : ∀ sig, parseMethodDescriptor y.desc = some sig → argsL.length = sig.parameters.length)
    (hstack : g.stack = argsL.reverse ++ rest) (hW : 2 * g.monitorRoom + (rest.map fun v => v.category).sum ≤ W9) (hdg : decode c.code g.pc = .ok (.invokestatic index, 3))
    (hpre : ∀ vm₁, s.WarmedH vm₁ → Pre ⟨T.setVm vm₁, locs, cells, slots⟩ argsL.toArray) :
    ∃ (v : Option Value) (vm₁ : Vm) (B : Pt), s.WarmedH vm₁ ∧ Stand p l e R s m args below meth c B.U B.locs B.cells B.slots ∧ Post ⟨T.setVm vm₁, locs, cells, slots⟩ argsL.toArray v B ∧
      ∀ target, Steps p.tables e below (B.U.setTop { g with pc := g.pc + 3, stack := v.toList ++ rest }) target → Steps p.tables e below (T.setTop g) target := by
  obtain ⟨mk, methM, cM, hnamed, hmethM, -, -, -, -, -, -, hsigM⟩ := Cond.codeWith_spec hcode
  have hstatic : methM.isStatic = true := Cond.static_spec hnamed hmethM hstat
  obtain ⟨kP, hkP, -⟩ := className_of_methodNamed hnamed
  have hinitP : kP.init = .initialized := Cond.initialized_spec (findClass_of_methodNamed hnamed) hkP hinit
  obtain ⟨vm₁, X₁, hstep₁⟩ := X.invokestatic hexec hown hlink hnamed hmethM hstatic hkP hinitP hy (g := g) hg (argsL := argsL) (rest := rest) (hlen _ hsigM) hstack hdg
  obtain ⟨v, B, X', hpost, hsteps⟩ := hK m meth c ⟨T.setVm vm₁, locs, cells, slots⟩ { g with stack := rest } (.invokestatic index) mk argsL.toArray X₁ hg hsize hdg hW (X₁.named hnamed) (hpre vm₁ X₁.warmed)
  exact ⟨v, vm₁, B, X₁.warmed, X', hpost, fun target h => hstep₁ _ fun acts => by rw [doInvoke_state]; exact hsteps.trans h⟩
theorem vx_runSW {y : MethodName} {bytes cc : ByteArray} {maxL nL mc ms n index : Nat} {ret : Option FieldType} {hh : List (Nat × Nat × Nat × Nat)} {ws : List Cond} {rm : Room} {Pc : Array Value → State → Prop} {Qc : Array Value → State → Outcome → State → Prop} {free : Addr → Prop} {Ts : List Cond} {own : String} {As rest : List Value} {g : JFrame}
    (S : CallFix p m c cc nL s args Ts own) (hM : Met l y ws rm Pc Qc mc ms free) (cw : vx_CSW R s args own index y bytes maxL ret hh ws rm mc ms n) (hp : PreS s H Pc As)
    (hg : g.method = m) (hn : As.length = n) (hsize : g.locals.size = nL) (hstack : g.stack = As.reverse ++ rest) (hW : 2 * g.monitorRoom + (rest.map fun v => v.category).sum ≤ 8) (hdg : decode cc g.pc = .ok (.invokestatic index, 3)) (hf : cells + mc ≤ R.cells ∧ slots + ms ≤ R.slots) :
    va_Run p l e R s m args below meth c H locs cells slots mc ms g rest (Qc As.toArray) (free) := by
  obtain ⟨⟨hrc, hrs, hfr, hlo, hws, hcw⟩, hcode, hini, hy, hlen, hl, hstt⟩ := cw
  have hK : Back l R p e below s args y 3 8 (PreOf R mc ms Pc) (PostOf Qc mc ms free) := va_backW (hh := hh) (bytes := bytes) (maxL := maxL) (ret := ret) hM hp.1 hrc hrs hfr hlo hws hcw (fun a' U hW => word_at hW (Or.inl (by first | rfl | simp [Cond.onTables, Cond.keeps, Cond.steady])) hini)
  obtain ⟨hx, hb, hml, ho, -⟩ := S
  intro T hT X
  obtain ⟨v, vm₁, ⟨U', l2, c2, s2⟩, hW₁, X', ⟨g', mk, t, L, e1, e2, hq, h1, hL, h2, h3⟩, st⟩ := vx_callSW X hx (hh := hh) (bytes := bytes) (maxL := maxL) (ret := ret) ho hl hstt hini hcode hy hK hg (hsize.trans hml.symm) (argsL := As) (rest := rest) (fun sig h => hn.trans (hlen sig h)) hstack hW (by rw [hb]; exact hdg)
    (fun vm₁ hW₁ => ⟨hf.1, hf.2, hp.2 (T.setVm vm₁) hT hW₁⟩)
  dsimp only [Pt.U, Pt.locs, Pt.cells, Pt.slots] at X' e1 e2 h1 h2 h3 st
  subst h1; subst h2; subst h3
  exact ⟨v, (T.setVm vm₁).calling g' mk As.toArray, t, U', L, hT, X', hL, e1, e2, hq, st⟩
/-- not caught here, past rows that name other classes: it goes on to the caller -/
theorem vx_outP {p : Program} {l : Launch} {e : Env} {R : Room} {s : State} {m : MethodId} {args : Array Value} {below : List Frame} {meth : Method} {c : Code} {H : Heap} {locs : List Loc} {cells slots : Nat} {free : Addr → Prop} {ls : Array Slot} {rest : List Value} {Qc : Array Value → State → Outcome → State → Prop} {XC : String → State → State → Prop}
    {pc : Nat} {own E : String} {ce : Cell} {q : Addr} {mc ms : Nat} (hown : s.vm.findClass own = some m.cls) (hlocks : meth.locks = false)
    (hpass : ∀ z ∈ c.exceptionTable.toList, covers z pc = false ∨ (z.catchType ≠ 0 ∧ ∃ nm : String, (Cond.classLink own z.catchType nm).before args s = true ∧ va_Nc E nm s)) (hcell : H[q]? = some ce) (hv : ce.vm = .none) (hcl : s.vm.findClass E = some ce.cls)
    (hx : ∀ t : State, t.heap = H → s.vm.Alike t.vm → XC E s t) (hf : ∀ z ∈ locs, free z.base) (hc : cells ≤ mc) (hs : slots ≤ ms) :
    vx_W p l e R s m args below meth c H locs cells slots (vx_MQ below Qc XC args s mc ms free) (F0 m pc ls rest) q := by
  intro T hT X
  have hpl : e.platform.magicAccessors = ({} : Platform).magicAccessors := by rw [X.admits.platform]
  obtain ⟨vm', hW', X', st⟩ := X.outThrough hlocks q (g := F0 m pc ls rest) rfl rfl rfl (cell := ce) (by rw [hT]; exact hcell) (by rw [hv]; rfl)
    (by obtain ⟨k9, h9, -⟩ := Vm.findClass_spec hcl; exact ⟨k9, h9⟩) (fun z hz => by
      rcases hpass z hz with h | ⟨hz0, nm, hl1, hn1⟩
      · exact Or.inl h
      · obtain ⟨c6, hc6, hcl6⟩ := Cond.classLink_spec hown hl1 e.platform hpl
        obtain ⟨a8, b8, h1, h2, h3⟩ := hn1
        cases Option.some.inj (h1.symm.trans hcl)
        cases Option.some.inj (h2.symm.trans hc6)
        exact Or.inr ⟨hz0, _, hcl6, h3⟩)
  obtain ⟨g₀, hfr⟩ := X'.frames_eq
  have hcell9 : ((T.setVm vm').setFrames (.throwing q :: below)).heap[q]? = some ce := by
    show T.heap[q]? = some ce
    rw [hT]; exact hcell
  have hend : Ended ((T.setVm vm').setFrames (.throwing q :: below)) below (.threw q) := State.frames_setFrames _ (State.cur_lt_of_frames hfr)
  refine ⟨(T.setVm vm').setFrames (.throwing q :: below), ?_, .threw q, X'.here.running, hend, Or.inr ⟨q, rfl, E, ce, locs, hx _ hT (X'.ends _).1.alike, hcell9, hv, hcl, (X'.ends _).1, (X'.ends _).2.mono hc hs, hf⟩⟩
  rw [X.pushThrowing_eq]
  exact st
/-- a thing of a world lies in the heap -/
theorem vx_lt {D : va_G} {cl : List vw_C} {ws : va_W} {H1 : Heap} (h : va_P D cl ws H1) {k : Nat} {q : Nat × va_E} (hk : ws[k]? = some q) : q.1 < H1.size := (h k q hk).lt
end VXS
/-! ===== END ===== -/
/-! ===== BEGIN methods with a table of their own: called by a name, returning or throwing ===== -/
section VXH
/-! vx_backW, vx_callVX, vx_callSX, vx_callVW, vx_runVW, vx_runVX, vx_runSX, vx_ofWH follow the same proofs as their sisters above (Free/Laws.lean, Shelf42/LK1.lean); vx_outP calls Shelf42/NT130.lean (outThrough). -/
section
variable {l : Launch} {R : Room} {p : Program} {e : Env} {below : List Frame} {s : State} {sargs : Array Value} {y : MethodName} {len W9 : Nat}
theorem vx_backW {ws : List Cond} {rm : Room} {Pc : Array Value → State → Prop} {Qc : Array Value → State → Outcome → State → Prop} {XC : String → State → State → Prop} {mc ms : Nat} {free : Addr → Prop} {bytes : ByteArray} {maxL : Nat} {ret : Option FieldType} {hh : List (Nat × Nat × Nat × Nat)}
    (hM : vx_Met l y ws rm Pc Qc XC mc ms free) (hblind : FrameBlind Pc) (hrc : rm.cells = mc) (hrs : rm.slots = ms)
    (hframes : rm.frames + 1 ≤ R.frames) (hlocals : W9 + (maxL + 11) + rm.locals ≤ R.locals)
    (hws : ∀ w ∈ ws, ∀ a' U, s.WarmedH U.vm → w.before a' U = true) (hcode : Cond.codeWith y bytes maxL ret hh ∈ ws) (hinit : ∀ a' U, s.WarmedH U.vm → (Cond.initialized y.cls).before a' U = true) :
    vx_Back l R p e below s sargs y len W9 (PreOf R mc ms Pc) (PostOf Qc mc ms free) (vx_Post XC mc ms free) := by
  intro m meth c A g ig mk a X hg hsize hdg hW hn hp
  have h1 : (headSpec ws rm).pre.before a A.U = true := atoms_intro fun w hw => hws w hw _ _ X.warmed
  have h2 : (Cond.codeWith y bytes maxL ret hh).before a A.U = true := hws _ hcode _ _ X.warmed
  have h3 : (Cond.initialized y.cls).before a A.U = true := hinit _ _ X.warmed
  have h4 : A.cells + (headSpec ws rm).room.cells ≤ R.cells := by rw [show (headSpec ws rm).room.cells = mc from hrc]; exact hp.1
  have h5 : A.slots + (headSpec ws rm).room.slots ≤ R.slots := by rw [show (headSpec ws rm).room.slots = ms from hrs]; exact hp.2.1
  have hPc : Pc a (A.U.calling g mk a) := hblind _ _ _ _ hp.2.2
  obtain ⟨U, Ls, c0, s0⟩ := A
  dsimp only [Pt.U, Pt.locs, Pt.cells, Pt.slots] at h1 h2 h3 h4 h5 X hn hPc ⊢
  obtain ⟨m9, methY, cY, hn9, hmY, hcY, -, hlY, -⟩ := Cond.codeWith_spec h2
  cases Option.some.inj (hn9.symm.trans hn)
  obtain ⟨kY, hkY, -⟩ := className_of_methodNamed hn
  have hinitY : kY.init = .initialized := Cond.initialized_spec (findClass_of_methodNamed hn) hkY h3
  have h : At U g.method c below := by rw [hg]; exact X.here
  have hlocals9 : W9 + (maxL + 11) + (headSpec ws rm).room.locals ≤ R.locals := hlocals
  have happ : (headSpec ws rm).appliesLoose y e.platform (U.calling g mk a) = true :=
    Spec.appliesLoose_calling (g := g) h hdg hn hkY hinitY
      (X.room_calling (g := g) (R' := (headSpec ws rm).room) hsize hmY hcY hframes (by rw [hlY]; omega) h4 h5) h1
  obtain ⟨mid, hmid⟩ := h.above
  have hfr : (U.setTop g).frames = (.java g :: mid) ++ below := by rw [State.frames_setTop' g h.top, hmid]; rfl
  obtain ⟨o, s₂, hsteps, -, hend, hq⟩ := Steps.callFree hM p X.admits X.cas X.clock (acts := []) hfr happ hPc trivial
  have hq' : vx_Q Qc XC mc ms free a (U.calling g mk a) o s₂ := hq
  rw [State.frames_setTop' g h.top] at hend
  obtain ⟨g₀, hg0⟩ := Option.isSome_iff_exists.mp h.top
  obtain ⟨r, hr⟩ := State.topJava?_eq_some.mp hg0
  have hr' : (({ U with heap := s₂.heap, slotsUsed := s₂.slotsUsed } : State).setVm s₂.vm).frames = .java g₀ :: r := hr
  rcases hq' with ⟨hqc, L, hfe, hL⟩ | ⟨q, rfl, E, ce, L, hx, hce, hcv, hcl, hW₂, hsm, hL⟩
  · obtain ⟨⟨v, rfl⟩, hW₂, e2, q2, q3, q4, q5, q6⟩ := id hfe
    have e3 : s₂ = ({ (U.calling g mk a).setFrames s₂.frames with heap := s₂.heap, slotsUsed := s₂.slotsUsed } : State).setVm s₂.vm := by
      have : s₂ = ({ s₂ with vm := (U.calling g mk a).vm } : State).setVm s₂.vm := rfl
      rw [e2] at this
      exact this
    obtain ⟨c₂, i₂, len₂, hc₂, hd₂, hf₂⟩ := hend
    have hW' : U.WarmedH s₂.vm := hW₂
    have hcc : c₂ = c := by
      have h1 : s₂.code? g.method = U.code? g.method := by
        rw [State.code?_eq, State.code?_eq, hW'.alike.method?]
      exact Option.some.inj (hc₂.symm.trans (h1.trans h.code))
    subst hcc
    have hlen : len₂ = len := by rw [hdg] at hd₂; cases hd₂; rfl
    subst hlen
    have hs₂ : s₂ = (({ U with heap := s₂.heap, slotsUsed := s₂.slotsUsed } : State).setVm s₂.vm).setTop { g with pc := g.pc + len₂, stack := v.toList ++ g.stack } := by
      refine e3.trans ?_
      rw [hf₂, State.calling_eq h.top, State.setFrames_setFrames, State.setTop_of_frames _ hr', hr]
      rfl
    have hsame : U.sameButNew ({ U with heap := s₂.heap, slotsUsed := s₂.slotsUsed } : State) L mc ms := by
      refine ⟨?_, q2, q3, q4, q5, q6⟩
      obtain ⟨t, ht, -⟩ := State.frames_cons hr
      show ({ U with heap := s₂.heap, slotsUsed := s₂.slotsUsed } : State) = { U.setFrames U.frames with heap := s₂.heap, slotsUsed := s₂.slotsUsed }
      rw [State.setFrames_self ht]
    subst hg
    refine Or.inl ⟨v, ⟨(({ U with heap := s₂.heap, slotsUsed := s₂.slotsUsed } : State).setVm s₂.vm), Ls ++ L, c0 + mc, s0 + ms⟩,
      ⟨X.admits, X.cas, X.clock, X.frames, X.room, X.hears, X.method, X.code, (X.here.setHeapUsed s₂.heap s₂.slotsUsed).setVm hW'.alike, X.tail, State.WarmedH.trans X.warmed hW', X.limits, X.bytes, X.same.trans (hsame.setVm s.vm)⟩,
      ⟨g, mk, s₂, L, rfl, rfl, hqc, rfl, hL, rfl, rfl⟩, ?_⟩
    show Steps p.tables e below _ ((({ U with heap := s₂.heap, slotsUsed := s₂.slotsUsed } : State).setVm s₂.vm).setTop { g with pc := g.pc + len₂, stack := v.toList ++ g.stack })
    rw [← hs₂]
    exact hsteps
  · obtain ⟨e2, q2, q3, q4, q5, q6⟩ := id hsm
    have e3 : s₂ = ({ (U.calling g mk a).setFrames s₂.frames with heap := s₂.heap, slotsUsed := s₂.slotsUsed } : State).setVm s₂.vm := by
      have : s₂ = ({ s₂ with vm := (U.calling g mk a).vm } : State).setVm s₂.vm := rfl
      rw [e2] at this
      exact this
    have hf₂ : s₂.frames = .throwing q :: .java g :: U.frames.tail := hend
    have hW' : U.WarmedH s₂.vm := hW₂
    have hs₂ : s₂ = ((({ U with heap := s₂.heap, slotsUsed := s₂.slotsUsed } : State).setVm s₂.vm).setTop g).pushFrame (.throwing q) := by
      refine e3.trans ?_
      rw [hf₂, State.calling_eq h.top, State.setFrames_setFrames, State.pushFrame, State.frames_setTop _ hr', State.setTop_of_frames _ hr', State.setFrames_setFrames, hr]
      rfl
    have hsame : U.sameButNew ({ U with heap := s₂.heap, slotsUsed := s₂.slotsUsed } : State) L mc ms := by
      refine ⟨?_, q2, q3, q4, q5, q6⟩
      obtain ⟨t, ht, -⟩ := State.frames_cons hr
      show ({ U with heap := s₂.heap, slotsUsed := s₂.slotsUsed } : State) = { U.setFrames U.frames with heap := s₂.heap, slotsUsed := s₂.slotsUsed }
      rw [State.setFrames_self ht]
    subst hg
    refine Or.inr ⟨q, ⟨(({ U with heap := s₂.heap, slotsUsed := s₂.slotsUsed } : State).setVm s₂.vm), Ls ++ L, c0 + mc, s0 + ms⟩,
      ⟨X.admits, X.cas, X.clock, X.frames, X.room, X.hears, X.method, X.code, (X.here.setHeapUsed s₂.heap s₂.slotsUsed).setVm hW'.alike, X.tail, State.WarmedH.trans X.warmed hW', X.limits, X.bytes, X.same.trans (hsame.setVm s.vm)⟩,
      ⟨g, mk, s₂, L, E, ce, rfl, rfl, hx, hce, hcv, hcl, rfl, hL, rfl, rfl⟩, ?_⟩
    show Steps p.tables e below _ (((({ U with heap := s₂.heap, slotsUsed := s₂.slotsUsed } : State).setVm s₂.vm).setTop g).pushFrame (.throwing q))
    rw [← hs₂]
    exact hsteps
end
variable {p : Program} {l : Launch} {e : Env} {R : Room} {s : State} {m : MethodId} {args : Array Value} {below : List Frame} {meth : Method} {c : Code} {T : State} {H : Heap} {locs : List Loc} {cells slots : Nat}
theorem vx_callVX (X : Stand p l e R s m args below meth c T locs cells slots) (hexec : p.tables.exec = Jvm.exec) {own C : String} {index : Nat} {y : MethodName} {bytes : ByteArray} {maxL : Nat} {ret : Option FieldType} {hh : List (Nat × Nat × Nat × Nat)}
    (hown : s.vm.findClass own = some m.cls) (hlink : (Cond.methodLink own index y).before args s = true) (hinst : (Cond.instanceMethod y).before args s = true) (hsel : (Cond.selects C y y).before args s = true)
    (hcode : (Cond.codeWith y bytes maxL ret hh).before args s = true) (hy : y.cls ≠ "java/lang/invoke/MethodHandle" ∧ y.cls ≠ "java/lang/invoke/VarHandle")
    {W9 : Nat} {Pre : Pt → Array Value → Prop} {Post : Pt → Array Value → Option Value → Pt → Prop} {PostX : Pt → Array Value → Addr → Pt → Prop} (hK : vx_Back l R p e below s args y 3 W9 Pre Post PostX)
    {b : Addr} {cellB : Cell} (hcell : T.heap[b]? = some cellB) (hobj : cellB.vm.isStatics = false) (hcls : s.vm.findClass C = some cellB.cls)
    {g : JFrame} (hg : g.method = m) (hsize : g.locals.size = c.maxLocals) {argsL rest : List Value} (hlen : ∀ sig, parseMethodDescriptor y.desc = some sig → argsL.length = sig.parameters.length)
    (hstack : g.stack = argsL.reverse ++ .ref b :: rest) (hW : 2 * g.monitorRoom + (rest.map fun v => v.category).sum ≤ W9) (hdg : decode c.code g.pc = .ok (.invokevirtual index, 3))
    (hpre : ∀ vm₁, s.WarmedH vm₁ → Pre ⟨T.setVm vm₁, locs, cells, slots⟩ (Value.ref b :: argsL).toArray) :
    (∃ (v : Option Value) (vm₁ : Vm) (B : Pt), s.WarmedH vm₁ ∧ Stand p l e R s m args below meth c B.U B.locs B.cells B.slots ∧ Post ⟨T.setVm vm₁, locs, cells, slots⟩ (Value.ref b :: argsL).toArray v B ∧
      ∀ target, Steps p.tables e below (B.U.setTop { g with pc := g.pc + 3, stack := v.toList ++ rest }) target → Steps p.tables e below (T.setTop g) target) ∨
    (∃ (q : Addr) (vm₁ : Vm) (B : Pt), s.WarmedH vm₁ ∧ Stand p l e R s m args below meth c B.U B.locs B.cells B.slots ∧ PostX ⟨T.setVm vm₁, locs, cells, slots⟩ (Value.ref b :: argsL).toArray q B ∧
      Steps p.tables e below (T.setTop g) ((B.U.setTop { g with stack := rest }).pushFrame (.throwing q))) := by
  obtain ⟨mk, methM, hnamed, hmethM, hstM, habM⟩ := Cond.instanceMethod_spec hinst
  obtain ⟨m8, methM', cM, hn8, hmethM', -, -, -, -, -, -, hsigM⟩ := Cond.codeWith_spec hcode
  cases Option.some.inj (hn8.symm.trans hnamed)
  cases hmethM.symm.trans hmethM'
  obtain ⟨c2, r2, m2, q1, q2, q3, q4, kP, hkP, hkPi⟩ := Cond.selects_spec hsel
  cases hcls.symm.trans q1
  cases (State.methodFound?_of_named hnamed hy).symm.trans q2
  cases hnamed.symm.trans q3
  have hselP : selectMethod e.platform s.vm cellB.cls mk = .method mk := by rw [Launch.admits_selectMethod X.admits]; exact q4
  obtain ⟨vm₁, X₁, hstep₁⟩ := X.invokevirtual hexec hown hlink hnamed hmethM hstM hkP hkPi hy (a := b) (cell := cellB) hcell
    (fun z h => by rw [h] at hobj; cases hobj) hselP hmethM habM hkP hkPi (g := g) hg (argsL := argsL) (rest := rest) (hlen _ hsigM) hstack hdg
  rcases hK m meth c ⟨T.setVm vm₁, locs, cells, slots⟩ { g with stack := rest } (.invokevirtual index) mk (Value.ref b :: argsL).toArray X₁ hg hsize hdg hW (X₁.named hnamed) (hpre vm₁ X₁.warmed) with ⟨v, B, X', hpost, hsteps⟩ | ⟨q, B, X', hpost, hsteps⟩
  · exact Or.inl ⟨v, vm₁, B, X₁.warmed, X', hpost, fun target h => hstep₁ _ fun acts => by rw [doInvoke_state]; exact hsteps.trans h⟩
  · exact Or.inr ⟨q, vm₁, B, X₁.warmed, X', hpost, hstep₁ _ fun acts => by rw [doInvoke_state]; exact hsteps⟩
theorem vx_callSX (X : Stand p l e R s m args below meth c T locs cells slots) (hexec : p.tables.exec = Jvm.exec) {own : String} {index : Nat} {y : MethodName} {bytes : ByteArray} {maxL : Nat} {ret : Option FieldType} {hh : List (Nat × Nat × Nat × Nat)}
    (hown : s.vm.findClass own = some m.cls) (hlink : (Cond.methodLink own index y).before args s = true) (hstat : (Cond.static y).before args s = true) (hinit : (Cond.initialized y.cls).before args s = true)
    (hcode : (Cond.codeWith y bytes maxL ret hh).before args s = true) (hy : y.cls ≠ "java/lang/invoke/MethodHandle" ∧ y.cls ≠ "java/lang/invoke/VarHandle")
    {W9 : Nat} {Pre : Pt → Array Value → Prop} {Post : Pt → Array Value → Option Value → Pt → Prop} {PostX : Pt → Array Value → Addr → Pt → Prop} (hK : vx_Back l R p e below s args y 3 W9 Pre Post PostX)
    {g : JFrame} (hg : g.method = m) (hsize : g.locals.size = c.maxLocals) {argsL rest : List Value} (hlen : ∀ sig, parseMethodDescriptor y.desc = some sig → argsL.length = sig.parameters.length)
    (hstack : g.stack = argsL.reverse ++ rest) (hW : 2 * g.monitorRoom + (rest.map fun v => v.category).sum ≤ W9) (hdg : decode c.code g.pc = .ok (.invokestatic index, 3))
    (hpre : ∀ vm₁, s.WarmedH vm₁ → Pre ⟨T.setVm vm₁, locs, cells, slots⟩ argsL.toArray) :
    (∃ (v : Option Value) (vm₁ : Vm) (B : Pt), s.WarmedH vm₁ ∧ Stand p l e R s m args below meth c B.U B.locs B.cells B.slots ∧ Post ⟨T.setVm vm₁, locs, cells, slots⟩ argsL.toArray v B ∧
      ∀ target, Steps p.tables e below (B.U.setTop { g with pc := g.pc + 3, stack := v.toList ++ rest }) target → Steps p.tables e below (T.setTop g) target) ∨
    (∃ (q : Addr) (vm₁ : Vm) (B : Pt), s.WarmedH vm₁ ∧ Stand p l e R s m args below meth c B.U B.locs B.cells B.slots ∧ PostX ⟨T.setVm vm₁, locs, cells, slots⟩ argsL.toArray q B ∧
      Steps p.tables e below (T.setTop g) ((B.U.setTop { g with stack := rest }).pushFrame (.throwing q))) := by
  obtain ⟨mk, methM, cM, hnamed, hmethM, -, -, -, -, -, -, hsigM⟩ := Cond.codeWith_spec hcode
  have hstatic : methM.isStatic = true := Cond.static_spec hnamed hmethM hstat
  obtain ⟨kP, hkP, -⟩ := className_of_methodNamed hnamed
  have hinitP : kP.init = .initialized := Cond.initialized_spec (findClass_of_methodNamed hnamed) hkP hinit
  obtain ⟨vm₁, X₁, hstep₁⟩ := X.invokestatic hexec hown hlink hnamed hmethM hstatic hkP hinitP hy (g := g) hg (argsL := argsL) (rest := rest) (hlen _ hsigM) hstack hdg
  rcases hK m meth c ⟨T.setVm vm₁, locs, cells, slots⟩ { g with stack := rest } (.invokestatic index) mk argsL.toArray X₁ hg hsize hdg hW (X₁.named hnamed) (hpre vm₁ X₁.warmed) with ⟨v, B, X', hpost, hsteps⟩ | ⟨q, B, X', hpost, hsteps⟩
  · exact Or.inl ⟨v, vm₁, B, X₁.warmed, X', hpost, fun target h => hstep₁ _ fun acts => by rw [doInvoke_state]; exact hsteps.trans h⟩
  · exact Or.inr ⟨q, vm₁, B, X₁.warmed, X', hpost, hstep₁ _ fun acts => by rw [doInvoke_state]; exact hsteps⟩
theorem vx_callVW (X : Stand p l e R s m args below meth c T locs cells slots) (hexec : p.tables.exec = Jvm.exec) {own C : String} {index : Nat} {y : MethodName} {bytes : ByteArray} {maxL : Nat} {ret : Option FieldType} {hh : List (Nat × Nat × Nat × Nat)}
    (hown : s.vm.findClass own = some m.cls) (hlink : (Cond.methodLink own index y).before args s = true) (hinst : (Cond.instanceMethod y).before args s = true) (hsel : (Cond.selects C y y).before args s = true)
    (hcode : (Cond.codeWith y bytes maxL ret hh).before args s = true) (hy : y.cls ≠ "java/lang/invoke/MethodHandle" ∧ y.cls ≠ "java/lang/invoke/VarHandle")
    {W9 : Nat} {Pre : Pt → Array Value → Prop} {Post : Pt → Array Value → Option Value → Pt → Prop} (hK : Back l R p e below s args y 3 W9 Pre Post)
    {b : Addr} {cellB : Cell} (hcell : T.heap[b]? = some cellB) (hobj : cellB.vm.isStatics = false) (hcls : s.vm.findClass C = some cellB.cls)
    {g : JFrame} (hg : g.method = m) (hsize : g.locals.size = c.maxLocals) {argsL rest : List Value} (hlen : ∀ sig, parseMethodDescriptor y.desc = some sig → argsL.length = sig.parameters.length)
    (hstack : g.stack = argsL.reverse ++ .ref b :: rest) (hW : 2 * g.monitorRoom + (rest.map fun v => v.category).sum ≤ W9) (hdg : decode c.code g.pc = .ok (.invokevirtual index, 3))
    (hpre : ∀ vm₁, s.WarmedH vm₁ → Pre ⟨T.setVm vm₁, locs, cells, slots⟩ (Value.ref b :: argsL).toArray) :
    ∃ (v : Option Value) (vm₁ : Vm) (B : Pt), s.WarmedH vm₁ ∧ Stand p l e R s m args below meth c B.U B.locs B.cells B.slots ∧ Post ⟨T.setVm vm₁, locs, cells, slots⟩ (Value.ref b :: argsL).toArray v B ∧
      ∀ target, Steps p.tables e below (B.U.setTop { g with pc := g.pc + 3, stack := v.toList ++ rest }) target → Steps p.tables e below (T.setTop g) target := by
  obtain ⟨mk, methM, hnamed, hmethM, hstM, habM⟩ := Cond.instanceMethod_spec hinst
  obtain ⟨m8, methM', cM, hn8, hmethM', -, -, -, -, -, -, hsigM⟩ := Cond.codeWith_spec hcode
  cases Option.some.inj (hn8.symm.trans hnamed)
  cases hmethM.symm.trans hmethM'
  obtain ⟨c2, r2, m2, q1, q2, q3, q4, kP, hkP, hkPi⟩ := Cond.selects_spec hsel
  cases hcls.symm.trans q1
  cases (State.methodFound?_of_named hnamed hy).symm.trans q2
  cases hnamed.symm.trans q3
  have hselP : selectMethod e.platform s.vm cellB.cls mk = .method mk := by rw [Launch.admits_selectMethod X.admits]; exact q4
  obtain ⟨vm₁, X₁, hstep₁⟩ := X.invokevirtual hexec hown hlink hnamed hmethM hstM hkP hkPi hy (a := b) (cell := cellB) hcell
    (fun z h => by rw [h] at hobj; cases hobj) hselP hmethM habM hkP hkPi (g := g) hg (argsL := argsL) (rest := rest) (hlen _ hsigM) hstack hdg
  obtain ⟨v, B, X', hpost, hsteps⟩ := hK m meth c ⟨T.setVm vm₁, locs, cells, slots⟩ { g with stack := rest } (.invokevirtual index) mk (Value.ref b :: argsL).toArray X₁ hg hsize hdg hW (X₁.named hnamed) (hpre vm₁ X₁.warmed)
  exact ⟨v, vm₁, B, X₁.warmed, X', hpost, fun target h => hstep₁ _ fun acts => by rw [doInvoke_state]; exact hsteps.trans h⟩
abbrev vx_CVW (R : Room) (s : State) (args : Array Value) (own C : String) (index : Nat) (y : MethodName) (bytes : ByteArray) (maxL : Nat) (ret : Option FieldType) (hh : List (Nat × Nat × Nat × Nat)) (ws : List Cond) (rm : Room) (mc ms n : Nat) : Prop :=
  (rm.cells = mc ∧ rm.slots = ms ∧ rm.frames + 1 ≤ R.frames ∧ 8 + (maxL + 11) + rm.locals ≤ R.locals ∧ (∀ w ∈ ws, ∀ (a' : Array Value) (U : State), s.WarmedH U.vm → w.before a' U = true) ∧ Cond.codeWith y bytes maxL ret hh ∈ ws) ∧
  (Cond.codeWith y bytes maxL ret hh).before args s = true ∧ (Cond.initialized y.cls).before args s = true ∧ (y.cls ≠ "java/lang/invoke/MethodHandle" ∧ y.cls ≠ "java/lang/invoke/VarHandle") ∧
  (∀ sig, parseMethodDescriptor y.desc = some sig → n = sig.parameters.length) ∧ (Cond.methodLink own index y).before args s = true ∧ (Cond.instanceMethod y).before args s = true ∧ (Cond.selects C y y).before args s = true
theorem vx_cwVW {own C : String} {index maxL mc ms : Nat} {y : MethodName} {bytes : ByteArray} {ret : Option FieldType} {hh : List (Nat × Nat × Nat × Nat)} {Ts ws ws' : List Cond} {rm : Room} (n : Nat) (ht : ∀ w ∈ Ts, w.before args s = true) (hT : GoodIn Ts (wsV own index C y ws)) (hw : ws = Cond.codeWith y bytes maxL ret hh :: ws') (hrc : rm.cells = mc) (hrs : rm.slots = ms)
    (hd : y.cls = C ∧ y.cls ≠ "java/lang/invoke/MethodHandle" ∧ y.cls ≠ "java/lang/invoke/VarHandle" ∧ (parseMethodDescriptor y.desc).map (fun d => d.parameters.length) = some n) (hR : rm.frames + 1 ≤ R.frames ∧ 8 + (maxL + 11) + rm.locals ≤ R.locals) :
    vx_CVW R s args own C index y bytes maxL ret hh ws rm mc ms n := by
  obtain ⟨hC, hd⟩ := hd
  subst hC
  have ok : ∀ w ∈ wsV own index y.cls y ws, w.before args s = true := fun w h => ht w (hT w h).1
  have hG : GoodIn Ts ws := fun w h => hT w (by unfold wsV; exact List.mem_append_right _ h)
  have hc : Cond.codeWith y bytes maxL ret hh ∈ ws := by rw [hw]; exact List.mem_cons_self
  refine ⟨⟨hrc, hrs, hR.1, hR.2, pay_in ht hG, hc⟩, ht _ (hG _ hc).1, ok _ (by simp [wsV]), ⟨hd.1, hd.2.1⟩, fun sig h => ?_, ok _ (by simp [wsV]), ok _ (by simp [wsV]), ok _ (by simp [wsV])⟩
  have h2 := hd.2.2
  rw [h] at h2
  exact (Option.some.inj h2).symm
theorem vx_runVW {y : MethodName} {bytes cc : ByteArray} {maxL nL mc ms n index : Nat} {ret : Option FieldType} {hh : List (Nat × Nat × Nat × Nat)} {ws : List Cond} {rm : Room} {Pc : Array Value → State → Prop} {Qc : Array Value → State → Outcome → State → Prop} {free : Addr → Prop} {Ts : List Cond} {own C : String} {b : Addr} {As rest : List Value} {g : JFrame}
    (S : CallFix p m c cc nL s args Ts own) (hM : Met l y ws rm Pc Qc mc ms free) (cw : vx_CVW R s args own C index y bytes maxL ret hh ws rm mc ms n) (hp : PreV s H C b Pc As)
    (hg : g.method = m) (hn : As.length = n) (hsize : g.locals.size = nL) (hstack : g.stack = As.reverse ++ .ref b :: rest) (hW : 2 * g.monitorRoom + (rest.map fun v => v.category).sum ≤ 8) (hdg : decode cc g.pc = .ok (.invokevirtual index, 3)) (hf : cells + mc ≤ R.cells ∧ slots + ms ≤ R.slots) :
    va_Run p l e R s m args below meth c H locs cells slots mc ms g rest (Qc (Value.ref b :: As).toArray) free := by
  obtain ⟨⟨hrc, hrs, hfr, hlo, hws, hcw⟩, hcode, hini, hy, hlen, hl, hin, hse⟩ := cw
  have hK : Back l R p e below s args y 3 8 (PreOf R mc ms Pc) (PostOf Qc mc ms free) := va_backW (hh := hh) (bytes := bytes) (maxL := maxL) (ret := ret) hM hp.1 hrc hrs hfr hlo hws hcw (fun a' U hW => word_at hW (Or.inl (by first | rfl | simp [Cond.onTables, Cond.keeps, Cond.steady])) hini)
  obtain ⟨hx, hb, hml, ho, -⟩ := S
  obtain ⟨-, ⟨cellB, hcB, hoB, hclB⟩, hPc⟩ := hp
  intro T hT X
  obtain ⟨v, vm₁, ⟨U', l2, c2, s2⟩, hW₁, X', ⟨g', mk, t, L, e1, e2, hq, h1, hL, h2, h3⟩, st⟩ := vx_callVW X hx (C := C) (hh := hh) (bytes := bytes) (maxL := maxL) (ret := ret) ho hl hin hse hcode hy hK (by rw [hT]; exact hcB) hoB hclB hg (hsize.trans hml.symm) (argsL := As) (rest := rest) (fun sig h => hn.trans (hlen sig h)) hstack hW (by rw [hb]; exact hdg)
    (fun vm₁ hW₁ => ⟨hf.1, hf.2, hPc (T.setVm vm₁) hT hW₁⟩)
  dsimp only [Pt.U, Pt.locs, Pt.cells, Pt.slots] at X' e1 e2 h1 h2 h3 st
  subst h1; subst h2; subst h3
  exact ⟨v, (T.setVm vm₁).calling g' mk (Value.ref b :: As).toArray, t, U', L, hT, X', hL, e1, e2, hq, st⟩
section
variable {y : MethodName} {bytes cc : ByteArray} {maxL nL mc ms n index : Nat} {ret : Option FieldType} {ws : List Cond} {rm : Room} {Pc : Array Value → State → Prop} {Qc : Array Value → State → Outcome → State → Prop} {XC : String → State → State → Prop} {free : Addr → Prop} {Ts : List Cond} {own C : String} {b : Addr} {As rest : List Value} {g : JFrame}
theorem vx_runVX {hh : List (Nat × Nat × Nat × Nat)} (S : CallFix p m c cc nL s args Ts own) (hM : vx_Met l y ws rm Pc Qc XC mc ms free) (cw : vx_CVW R s args own C index y bytes maxL ret hh ws rm mc ms n) (hp : PreV s H C b Pc As)
    (hg : g.method = m) (hn : As.length = n) (hsize : g.locals.size = nL) (hstack : g.stack = As.reverse ++ .ref b :: rest) (hW : 2 * g.monitorRoom + (rest.map fun v => v.category).sum ≤ 8) (hdg : decode cc g.pc = .ok (.invokevirtual index, 3)) (hf : cells + mc ≤ R.cells ∧ slots + ms ≤ R.slots) :
    vx_Run p l e R s m args below meth c H locs cells slots mc ms g rest (Qc (Value.ref b :: As).toArray) XC free := by
  obtain ⟨⟨hrc, hrs, hfr, hlo, hws, hcw⟩, hcode, hini, hy, hlen, hl, hin, hse⟩ := cw
  have hK : vx_Back l R p e below s args y 3 8 (PreOf R mc ms Pc) (PostOf Qc mc ms free) (vx_Post XC mc ms free) := vx_backW (hh := hh) (bytes := bytes) (maxL := maxL) (ret := ret) hM hp.1 hrc hrs hfr hlo hws hcw (fun a' U hW => word_at hW (Or.inl (by first | rfl | simp [Cond.onTables, Cond.keeps, Cond.steady])) hini)
  obtain ⟨hx, hb, hml, ho, -⟩ := S
  obtain ⟨-, ⟨cellB, hcB, hoB, hclB⟩, hPc⟩ := hp
  intro T hT X
  rcases vx_callVX X hx (C := C) (hh := hh) (bytes := bytes) (maxL := maxL) (ret := ret) ho hl hin hse hcode hy hK (by rw [hT]; exact hcB) hoB hclB hg (hsize.trans hml.symm) (argsL := As) (rest := rest) (fun sig h => hn.trans (hlen sig h)) hstack hW (by rw [hb]; exact hdg)
    (fun vm₁ hW₁ => ⟨hf.1, hf.2, hPc (T.setVm vm₁) hT hW₁⟩) with ⟨v, vm₁, ⟨U', l2, c2, s2⟩, hW₁, X', ⟨g', mk, t, L, e1, e2, hq, h1, hL, h2, h3⟩, st⟩ | ⟨q, vm₁, ⟨U', l2, c2, s2⟩, hW₁, X', ⟨g', mk, t, L, E, ce, e1, e2, hq, hce, hcv, hcl, h1, hL, h2, h3⟩, st⟩
  · dsimp only [Pt.U, Pt.locs, Pt.cells, Pt.slots] at X' e1 e2 h1 h2 h3 st
    subst h1; subst h2; subst h3
    exact Or.inl ⟨v, (T.setVm vm₁).calling g' mk (Value.ref b :: As).toArray, t, U', L, hT, X', hL, e1, e2, hq, st⟩
  · dsimp only [Pt.U, Pt.locs, Pt.cells, Pt.slots] at X' e1 e2 h1 h2 h3 st hcl
    subst h1; subst h2; subst h3
    exact Or.inr ⟨q, (T.setVm vm₁).calling g' mk (Value.ref b :: As).toArray, t, U', L, E, ce, hT, X', hL, e1, e2, hq, hce, hcv, vx_cls hW₁ hcl, st⟩
theorem vx_runSX {hh : List (Nat × Nat × Nat × Nat)} (S : CallFix p m c cc nL s args Ts own) (hM : vx_Met l y ws rm Pc Qc XC mc ms free) (cw : vx_CSW R s args own index y bytes maxL ret hh ws rm mc ms n) (hp : PreS s H Pc As)
    (hg : g.method = m) (hn : As.length = n) (hsize : g.locals.size = nL) (hstack : g.stack = As.reverse ++ rest) (hW : 2 * g.monitorRoom + (rest.map fun v => v.category).sum ≤ 8) (hdg : decode cc g.pc = .ok (.invokestatic index, 3)) (hf : cells + mc ≤ R.cells ∧ slots + ms ≤ R.slots) :
    vx_Run p l e R s m args below meth c H locs cells slots mc ms g rest (Qc As.toArray) XC free := by
  obtain ⟨⟨hrc, hrs, hfr, hlo, hws, hcw⟩, hcode, hini, hy, hlen, hl, hstt⟩ := cw
  have hK : vx_Back l R p e below s args y 3 8 (PreOf R mc ms Pc) (PostOf Qc mc ms free) (vx_Post XC mc ms free) := vx_backW (hh := hh) (bytes := bytes) (maxL := maxL) (ret := ret) hM hp.1 hrc hrs hfr hlo hws hcw (fun a' U hW => word_at hW (Or.inl (by first | rfl | simp [Cond.onTables, Cond.keeps, Cond.steady])) hini)
  obtain ⟨hx, hb, hml, ho, -⟩ := S
  intro T hT X
  rcases vx_callSX X hx (hh := hh) (bytes := bytes) (maxL := maxL) (ret := ret) ho hl hstt hini hcode hy hK hg (hsize.trans hml.symm) (argsL := As) (rest := rest) (fun sig h => hn.trans (hlen sig h)) hstack hW (by rw [hb]; exact hdg)
    (fun vm₁ hW₁ => ⟨hf.1, hf.2, hp.2 (T.setVm vm₁) hT hW₁⟩) with ⟨v, vm₁, ⟨U', l2, c2, s2⟩, hW₁, X', ⟨g', mk, t, L, e1, e2, hq, h1, hL, h2, h3⟩, st⟩ | ⟨q, vm₁, ⟨U', l2, c2, s2⟩, hW₁, X', ⟨g', mk, t, L, E, ce, e1, e2, hq, hce, hcv, hcl, h1, hL, h2, h3⟩, st⟩
  · dsimp only [Pt.U, Pt.locs, Pt.cells, Pt.slots] at X' e1 e2 h1 h2 h3 st
    subst h1; subst h2; subst h3
    exact Or.inl ⟨v, (T.setVm vm₁).calling g' mk As.toArray, t, U', L, hT, X', hL, e1, e2, hq, st⟩
  · dsimp only [Pt.U, Pt.locs, Pt.cells, Pt.slots] at X' e1 e2 h1 h2 h3 st hcl
    subst h1; subst h2; subst h3
    exact Or.inr ⟨q, (T.setVm vm₁).calling g' mk As.toArray, t, U', L, E, ce, hT, X', hL, e1, e2, hq, hce, hcv, vx_cls hW₁ hcl, st⟩
end
end VXH
theorem vx_ofWH {l : Launch} {y : MethodName} {ws ws' : List Cond} {rm : Room} {Pc : Array Value → State → Prop} {Qc : Array Value → State → Outcome → State → Prop} {XC : String → State → State → Prop} {mc ms : Nat} {free : Addr → Prop} {cc : ByteArray} {maxL : Nat} {ret : Option FieldType} {hh : List (Nat × Nat × Nat × Nat)}
    (hy : plainName y.cls = true) (hw : ws = Cond.codeWith y cc maxL ret hh :: ws')
    (body : ∀ p e s m args below meth c s₁, BodyLoose p l y (headSpec ws rm) cc maxL ret e s m args below meth c s₁ → c.maxLocals = maxL → Pc args s →
      W p l e (headSpec ws rm).room s m args below meth c s.heap [] 0 0 (vx_MQ below Qc XC args s mc ms free) (entryFrame m args maxL)) : vx_Met l y ws rm Pc Qc XC mc ms free := by
  refine MetFree.of_bodyS (code := cc) (maxLocals := maxL) (ret := ret) hy ?_ ?_
  · intro args s m h hn
    obtain ⟨m9, meth, c, hn9, h1, h2, h3, h4, -, h5, h6, -⟩ := Cond.codeWith_spec (atoms_spec (ws := ws) h _ (by rw [hw]; exact List.mem_cons_self))
    cases hn.symm.trans hn9
    exact ⟨meth, c, h1, h2, h3, h4, h5, h6⟩
  · intro p e s m args below meth c s₁ B hml hP _
    have hh0 : s₁.heap = s.heap := by rw [B.state]; rfl
    obtain ⟨t, a1, o, b1, b2, b3⟩ := body p e s m args below meth c s₁ B hml hP s₁ hh0 (Stand.of_body B)
    exact ⟨t, o, a1, b1, b2, b3⟩
/-! ===== END ===== -/

/-! ===== BEGIN a constructor that throws (launches without stack traces) ===== -/
section VXIA
variable {p : Program} {l : Launch} {e : Env} {R : Room} {s : State} {m : MethodId} {args : Array Value} {below : List Frame} {meth : Method} {c : Code} {T : State} {locs : List Loc} {cells slots : Nat}
theorem vx_callI (X : Stand p l e R s m args below meth c T locs cells slots) (hexec : p.tables.exec = Jvm.exec) {own : String} {index : Nat} {y : MethodName} {bytes : ByteArray} {maxL : Nat}
    (hown : s.vm.findClass own = some m.cls) (hy1 : y.name = "<init>") (hlink : (Cond.methodLink own index y).before args s = true) (hinst : (Cond.instanceMethod y).before args s = true)
    (hcode : (Cond.code y bytes maxL none).before args s = true) (hy : y.cls ≠ "java/lang/invoke/MethodHandle" ∧ y.cls ≠ "java/lang/invoke/VarHandle")
    {W9 : Nat} {Pre : Pt → Array Value → Prop} {Post : Pt → Array Value → Option Value → Pt → Prop} {PostX : Pt → Array Value → Addr → Pt → Prop} (hK : vx_Back l R p e below s args y 3 W9 Pre Post PostX)
    {g : JFrame} (hg : g.method = m) (hsize : g.locals.size = c.maxLocals) {a : Addr} {argsL rest : List Value} (hlen : ∀ sig, parseMethodDescriptor y.desc = some sig → argsL.length = sig.parameters.length)
    (hstack : g.stack = argsL.reverse ++ .ref a :: rest) (hW : 2 * g.monitorRoom + (rest.map fun v => v.category).sum ≤ W9) (hdg : decode c.code g.pc = .ok (.invokespecial index, 3))
    (hpre : ∀ vm₁, s.WarmedH vm₁ → Pre ⟨T.setVm vm₁, locs, cells, slots⟩ (Value.ref a :: argsL).toArray) :
    (∃ (v : Option Value) (vm₁ : Vm) (B : Pt), s.WarmedH vm₁ ∧ Stand p l e R s m args below meth c B.U B.locs B.cells B.slots ∧ Post ⟨T.setVm vm₁, locs, cells, slots⟩ (Value.ref a :: argsL).toArray v B ∧
      ∀ target, Steps p.tables e below (B.U.setTop { g with pc := g.pc + 3, stack := v.toList ++ rest }) target → Steps p.tables e below (T.setTop g) target) ∨
    (∃ (q : Addr) (vm₁ : Vm) (B : Pt), s.WarmedH vm₁ ∧ Stand p l e R s m args below meth c B.U B.locs B.cells B.slots ∧ PostX ⟨T.setVm vm₁, locs, cells, slots⟩ (Value.ref a :: argsL).toArray q B ∧
      Steps p.tables e below (T.setTop g) ((B.U.setTop { g with stack := rest }).pushFrame (.throwing q))) := by
  subst hg
  have hpl : e.platform.magicAccessors = ({} : Platform).magicAccessors := by rw [X.admits.platform]
  obtain ⟨mk, methM, cM, kP, vm₁, hnamed, hmethM, hcodeM, -, hlocalsM, -, hkP, -, hW₁, hstep₁⟩ := Steps.initColdArgs (e := e) X.here hexec X.warmed hpl hown hy1 hy hlink hinst hcode (f := g) rfl hlen hstack hdg
  have X₁ := X.noted hW₁
  rcases hK g.method meth c ⟨T.setVm vm₁, locs, cells, slots⟩ { g with stack := rest } (.invokespecial index) mk (Value.ref a :: argsL).toArray X₁ rfl hsize hdg hW (X₁.named hnamed) (hpre vm₁ X₁.warmed) with ⟨v, B, X', hpost, hsteps⟩ | ⟨q, B, X', hpost, hsteps⟩
  · exact Or.inl ⟨v, vm₁, B, X₁.warmed, X', hpost, fun target h => hstep₁ _ fun acts => by rw [doInvoke_state]; exact hsteps.trans h⟩
  · exact Or.inr ⟨q, vm₁, B, X₁.warmed, X', hpost, hstep₁ _ fun acts => by rw [doInvoke_state]; exact hsteps⟩
end VXIA
section VXIB
variable {p : Program} {l : Launch} {e : Env} {R : Room} {s : State} {m : MethodId} {args : Array Value} {below : List Frame} {meth : Method} {c : Code} {H : Heap} {locs : List Loc} {cells slots : Nat}
variable {y : MethodName} {bytes cc : ByteArray} {maxL nL mc ms n index : Nat} {ret : Option FieldType} {ws : List Cond} {rm : Room} {Pc : Array Value → State → Prop} {Qc : Array Value → State → Outcome → State → Prop} {XC : String → State → State → Prop} {free : Addr → Prop} {Ts : List Cond} {own C : String} {b : Addr} {As rest : List Value} {g : JFrame}
theorem vx_runI (S : CallFix p m c cc nL s args Ts own) (hM : vx_Met l y ws rm Pc Qc XC mc ms free) (cw : CallB R s args own index y bytes maxL none ws rm mc ms n ∧ y.name = "<init>" ∧ (Cond.instanceMethod y).before args s = true) (hp : PreS s H Pc (.ref b :: As))
    (hg : g.method = m) (hn : As.length = n) (hsize : g.locals.size = nL) (hstack : g.stack = As.reverse ++ .ref b :: rest) (hW : 2 * g.monitorRoom + (rest.map fun v => v.category).sum ≤ 8) (hdg : decode cc g.pc = .ok (.invokespecial index, 3)) (hf : cells + mc ≤ R.cells ∧ slots + ms ≤ R.slots) :
    vx_Run p l e R s m args below meth c H locs cells slots mc ms g rest (Qc (Value.ref b :: As).toArray) XC free := by
  have hK : vx_Back l R p e below s args y 3 8 (PreOf R mc ms Pc) (PostOf Qc mc ms free) (vx_Post XC mc ms free) := vx_callBack cw.1 hM hp.1
  obtain ⟨⟨-, -, -, -, -, -, hcode, -, hy, hlen, hl⟩, hy1, hin⟩ := cw
  obtain ⟨hx, hb, hml, ho, -⟩ := S
  have hPc := hp.2
  intro T hT X
  rcases vx_callI X hx (bytes := bytes) (maxL := maxL) ho hy1 hl hin hcode hy hK hg (hsize.trans hml.symm) (a := b) (argsL := As) (rest := rest) (fun sig h => hn.trans (hlen sig h)) hstack hW (by rw [hb]; exact hdg)
    (fun vm₁ hW₁ => ⟨hf.1, hf.2, hPc (T.setVm vm₁) hT hW₁⟩) with ⟨v, vm₁, ⟨U', l2, c2, s2⟩, hW₁, X', ⟨g', mk, t, L, e1, e2, hq, h1, hL, h2, h3⟩, st⟩ | ⟨q, vm₁, ⟨U', l2, c2, s2⟩, hW₁, X', ⟨g', mk, t, L, E, ce, e1, e2, hq, hce, hcv, hcl, h1, hL, h2, h3⟩, st⟩
  · dsimp only [Pt.U, Pt.locs, Pt.cells, Pt.slots] at X' e1 e2 h1 h2 h3 st
    subst h1; subst h2; subst h3
    exact Or.inl ⟨v, (T.setVm vm₁).calling g' mk (Value.ref b :: As).toArray, t, U', L, hT, X', hL, e1, e2, hq, st⟩
  · dsimp only [Pt.U, Pt.locs, Pt.cells, Pt.slots] at X' e1 e2 h1 h2 h3 st hcl
    subst h1; subst h2; subst h3
    exact Or.inr ⟨q, (T.setVm vm₁).calling g' mk (Value.ref b :: As).toArray, t, U', L, E, ce, hT, X', hL, e1, e2, hq, hce, hcv, vx_cls hW₁ hcl, st⟩
end VXIB
/-! ===== END ===== -/
/-! ===== BEGIN a private constructor of a nest mate that throws ===== -/
section VXIC
variable {p : Program} {l : Launch} {e : Env} {R : Room} {s : State} {m : MethodId} {args : Array Value} {below : List Frame} {meth : Method} {c : Code} {T : State} {locs : List Loc} {cells slots : Nat}
theorem vx_callIN (X : Stand p l e R s m args below meth c T locs cells slots) (hexec : p.tables.exec = Jvm.exec) {own : String} {index : Nat} {host : String} {y : MethodName} {bytes : ByteArray} {maxL : Nat}
    (hown : s.vm.findClass own = some m.cls) (hy1 : y.name = "<init>") (hlink : (Cond.methodLinkNest own index y host).before args s = true) (hinst : (Cond.instanceMethod y).before args s = true)
    (hcode : (Cond.code y bytes maxL none).before args s = true) (hy : y.cls ≠ "java/lang/invoke/MethodHandle" ∧ y.cls ≠ "java/lang/invoke/VarHandle")
    {W9 : Nat} {Pre : Pt → Array Value → Prop} {Post : Pt → Array Value → Option Value → Pt → Prop} {PostX : Pt → Array Value → Addr → Pt → Prop} (hK : vx_Back l R p e below s args y 3 W9 Pre Post PostX)
    {g : JFrame} (hg : g.method = m) (hsize : g.locals.size = c.maxLocals) {a : Addr} {argsL rest : List Value} (hlen : ∀ sig, parseMethodDescriptor y.desc = some sig → argsL.length = sig.parameters.length)
    (hstack : g.stack = argsL.reverse ++ .ref a :: rest) (hW : 2 * g.monitorRoom + (rest.map fun v => v.category).sum ≤ W9) (hdg : decode c.code g.pc = .ok (.invokespecial index, 3))
    (hpre : ∀ vm₁, s.WarmedH vm₁ → Pre ⟨T.setVm vm₁, locs, cells, slots⟩ (Value.ref a :: argsL).toArray) :
    (∃ (v : Option Value) (vm₁ : Vm) (B : Pt), s.WarmedH vm₁ ∧ Stand p l e R s m args below meth c B.U B.locs B.cells B.slots ∧ Post ⟨T.setVm vm₁, locs, cells, slots⟩ (Value.ref a :: argsL).toArray v B ∧
      ∀ target, Steps p.tables e below (B.U.setTop { g with pc := g.pc + 3, stack := v.toList ++ rest }) target → Steps p.tables e below (T.setTop g) target) ∨
    (∃ (q : Addr) (vm₁ : Vm) (B : Pt), s.WarmedH vm₁ ∧ Stand p l e R s m args below meth c B.U B.locs B.cells B.slots ∧ PostX ⟨T.setVm vm₁, locs, cells, slots⟩ (Value.ref a :: argsL).toArray q B ∧
      Steps p.tables e below (T.setTop g) ((B.U.setTop { g with stack := rest }).pushFrame (.throwing q))) := by
  subst hg
  have hpl : e.platform.magicAccessors = ({} : Platform).magicAccessors := by rw [X.admits.platform]
  obtain ⟨mk, methM, cM, kP, vm₁, hnamed, hmethM, hcodeM, -, hlocalsM, -, hkP, -, hW₁, hstep₁⟩ := Steps.initColdArgsNest (e := e) X.here hexec X.warmed hpl hown hy1 hy hlink hinst hcode (f := g) rfl hlen hstack hdg
  have X₁ := X.noted hW₁
  rcases hK g.method meth c ⟨T.setVm vm₁, locs, cells, slots⟩ { g with stack := rest } (.invokespecial index) mk (Value.ref a :: argsL).toArray X₁ rfl hsize hdg hW (X₁.named hnamed) (hpre vm₁ X₁.warmed) with ⟨v, B, X', hpost, hsteps⟩ | ⟨q, B, X', hpost, hsteps⟩
  · exact Or.inl ⟨v, vm₁, B, X₁.warmed, X', hpost, fun target h => hstep₁ _ fun acts => by rw [doInvoke_state]; exact hsteps.trans h⟩
  · exact Or.inr ⟨q, vm₁, B, X₁.warmed, X', hpost, hstep₁ _ fun acts => by rw [doInvoke_state]; exact hsteps⟩
end VXIC
section VXID
variable {p : Program} {l : Launch} {e : Env} {R : Room} {s : State} {m : MethodId} {args : Array Value} {below : List Frame} {meth : Method} {c : Code} {H : Heap} {locs : List Loc} {cells slots : Nat}
theorem vx_runIN {y : MethodName} {bytes cc : ByteArray} {maxL nL mc ms n index : Nat} {ws : List Cond} {rm : Room} {Pc : Array Value → State → Prop} {Qc : Array Value → State → Outcome → State → Prop} {XC : String → State → State → Prop} {free : Addr → Prop} {Ts : List Cond} {own host : String} {b : Addr} {As rest : List Value} {g : JFrame}
    (S : CallFix p m c cc nL s args Ts own) (hM : vx_Met l y ws rm Pc Qc XC mc ms free) (cw : va_CN R s args own index y host bytes maxL none ws rm mc ms n ∧ y.name = "<init>" ∧ (Cond.instanceMethod y).before args s = true) (hp : PreS s H Pc (.ref b :: As))
    (hg : g.method = m) (hn : As.length = n) (hsize : g.locals.size = nL) (hstack : g.stack = As.reverse ++ .ref b :: rest) (hW : 2 * g.monitorRoom + (rest.map fun v => v.category).sum ≤ 8) (hdg : decode cc g.pc = .ok (.invokespecial index, 3)) (hf : cells + mc ≤ R.cells ∧ slots + ms ≤ R.slots) :
    vx_Run p l e R s m args below meth c H locs cells slots mc ms g rest (Qc (Value.ref b :: As).toArray) XC free := by
  obtain ⟨⟨⟨hrc, hrs, hfr, hlo, hws, hcw⟩, hcode, hini, hy, hlen, hl⟩, hx1, hx2⟩ := cw
  have hK : vx_Back l R p e below s args y 3 8 (PreOf R mc ms Pc) (PostOf Qc mc ms free) (vx_Post XC mc ms free) := vx_back (bytes := bytes) (maxL := maxL) (ret := none) hM hp.1 hrc hrs hfr hlo hws hcw (fun a' U hW => word_at hW (Or.inl (by first | rfl | simp [Cond.onTables, Cond.keeps, Cond.steady])) hini)
  obtain ⟨hx, hb, hml, ho, -⟩ := S
  have hPc := hp.2
  intro T hT X
  rcases vx_callIN X hx (bytes := bytes) (maxL := maxL) ho hx1 hl hx2 hcode hy hK hg (hsize.trans hml.symm) (a := b) (argsL := As) (rest := rest) (fun sig h => hn.trans (hlen sig h)) hstack hW (by rw [hb]; exact hdg)
    (fun vm₁ hW₁ => ⟨hf.1, hf.2, hPc (T.setVm vm₁) hT hW₁⟩) with ⟨v, vm₁, ⟨U', l2, c2, s2⟩, hW₁, X', ⟨g', mk, t, L, e1, e2, hq, h1, hL, h2, h3⟩, st⟩ | ⟨q, vm₁, ⟨U', l2, c2, s2⟩, hW₁, X', ⟨g', mk, t, L, E, ce, e1, e2, hq, hce, hcv, hcl, h1, hL, h2, h3⟩, st⟩
  · dsimp only [Pt.U, Pt.locs, Pt.cells, Pt.slots] at X' e1 e2 h1 h2 h3 st
    subst h1; subst h2; subst h3
    exact Or.inl ⟨v, (T.setVm vm₁).calling g' mk (Value.ref b :: As).toArray, t, U', L, hT, X', hL, e1, e2, hq, st⟩
  · dsimp only [Pt.U, Pt.locs, Pt.cells, Pt.slots] at X' e1 e2 h1 h2 h3 st hcl
    subst h1; subst h2; subst h3
    exact Or.inr ⟨q, (T.setVm vm₁).calling g' mk (Value.ref b :: As).toArray, t, U', L, E, ce, hT, X', hL, e1, e2, hq, hce, hcv, vx_cls hW₁ hcl, st⟩
end VXID
/-! ===== END ===== -/
/-! ===== BEGIN a method of a class above, found by the receiver, that may throw (follows va_callVU, va_runU of this kit) ===== -/
section
variable {p : Program} {l : Launch} {e : Env} {R : Room} {s : State} {m : MethodId} {args : Array Value} {below : List Frame} {meth : Method} {c : Code} {H : Heap} {locs : List Loc} {cells slots : Nat}
theorem vx_callVU {T : State} {locs : List Loc} {cells slots : Nat} (X : Stand p l e R s m args below meth c T locs cells slots) (hexec : p.tables.exec = Jvm.exec) {own C owner : String} {index : Nat} {x y : MethodName} {bytes : ByteArray} {maxL : Nat} {ret : Option FieldType}
    (hown : s.vm.findClass own = some m.cls) (hlink : (Cond.methodLink own index x).before args s = true) (hsame : (Cond.sameMethod x.cls owner x.name x.desc).before args s = true)
    (hd0 : va_Decl s ⟨owner, x.name, x.desc⟩) (howner : owner ≠ "java/lang/invoke/MethodHandle" ∧ owner ≠ "java/lang/invoke/VarHandle")
    (hsel : (Cond.selects C x y).before args s = true) (hinst : (Cond.instanceMethod y).before args s = true) (hcode : (Cond.code y bytes maxL ret).before args s = true)
    {W : Nat} {Pre : Pt → Array Value → Prop} {Post : Pt → Array Value → Option Value → Pt → Prop} {PostX : Pt → Array Value → Addr → Pt → Prop} (hK : vx_Back l R p e below s args y 3 W Pre Post PostX)
    {b : Addr} {cellB : Cell} (hcell : T.heap[b]? = some cellB) (hobj : cellB.vm.isStatics = false) (hcls : s.vm.findClass C = some cellB.cls)
    {g : JFrame} (hg : g.method = m) (hsize : g.locals.size = c.maxLocals) {argsL rest : List Value} (hlen : ∀ sig, parseMethodDescriptor x.desc = some sig → argsL.length = sig.parameters.length)
    (hstack : g.stack = argsL.reverse ++ .ref b :: rest) (hW : 2 * g.monitorRoom + (rest.map fun v => v.category).sum ≤ W) (hdg : decode c.code g.pc = .ok (.invokevirtual index, 3))
    (hpre : ∀ vm₁, s.WarmedH vm₁ → Pre ⟨T.setVm vm₁, locs, cells, slots⟩ (Value.ref b :: argsL).toArray) :
    (∃ (v : Option Value) (vm₁ : Vm) (B : Pt), s.WarmedH vm₁ ∧ Stand p l e R s m args below meth c B.U B.locs B.cells B.slots ∧ Post ⟨T.setVm vm₁, locs, cells, slots⟩ (Value.ref b :: argsL).toArray v B ∧
      ∀ target, Steps p.tables e below (B.U.setTop { g with pc := g.pc + 3, stack := v.toList ++ rest }) target → Steps p.tables e below (T.setTop g) target) ∨
    (∃ (q : Addr) (vm₁ : Vm) (B : Pt), s.WarmedH vm₁ ∧ Stand p l e R s m args below meth c B.U B.locs B.cells B.slots ∧ PostX ⟨T.setVm vm₁, locs, cells, slots⟩ (Value.ref b :: argsL).toArray q B ∧
      Steps p.tables e below (T.setTop g) ((B.U.setTop { g with stack := rest }).pushFrame (.throwing q))) := by
  obtain ⟨r0, r, hn, hrm, hstR, hsigR⟩ := hd0
  obtain ⟨cn, ck, r1, hcn, hck, hni, hf, hn1⟩ := Cond.sameMethod_found hsame
  cases hn.symm.trans hn1
  obtain ⟨mk, methM, hnamed, hmethM, -, habM⟩ := Cond.instanceMethod_spec hinst
  obtain ⟨c2, r2, m2, q1, q2, q3, q4, kP, hkP, hkPi⟩ := Cond.selects_spec hsel
  cases hcls.symm.trans q1
  cases hf.symm.trans q2
  cases hnamed.symm.trans q3
  have hselP : selectMethod e.platform s.vm cellB.cls r0 = .method mk := by rw [Launch.admits_selectMethod X.admits]; exact q4
  obtain ⟨vm₁, X₁, hstep₁⟩ := X.invokevirtualUp hexec hown hlink hsame howner hn hrm hstR (a := b) (cell := cellB) hcell
    (fun z h => by rw [h] at hobj; cases hobj) hselP hmethM habM hkP hkPi (g := g) hg (argsL := argsL) (rest := rest) (hlen _ hsigR) hstack hdg
  rcases hK m meth c ⟨T.setVm vm₁, locs, cells, slots⟩ { g with stack := rest } (.invokevirtual index) mk (Value.ref b :: argsL).toArray X₁ hg hsize hdg hW (X₁.named hnamed) (hpre vm₁ X₁.warmed) with ⟨v, B, X', hpost, hsteps⟩ | ⟨q, B, X', hpost, hsteps⟩
  · exact Or.inl ⟨v, vm₁, B, X₁.warmed, X', hpost, fun target h => hstep₁ _ fun acts => by rw [doInvoke_state]; exact hsteps.trans h⟩
  · exact Or.inr ⟨q, vm₁, B, X₁.warmed, X', hpost, hstep₁ _ fun acts => by rw [doInvoke_state]; exact hsteps⟩
theorem vx_runU {x y : MethodName} {bytes cc : ByteArray} {maxL nL mc ms n index : Nat} {ret : Option FieldType} {ws : List Cond} {rm : Room} {Pc : Array Value → State → Prop} {Qc : Array Value → State → Outcome → State → Prop} {XC : String → State → State → Prop} {free : Addr → Prop} {Ts : List Cond} {own C owner : String} {b : Addr} {As rest : List Value} {g : JFrame}
    (S : CallFix p m c cc nL s args Ts own) (hM : vx_Met l y ws rm Pc Qc XC mc ms free) (cw : va_CU R s args own C owner index x y bytes maxL ret ws rm mc ms n) (hp : PreV s H C b Pc As)
    (hg : g.method = m) (hn : As.length = n) (hsize : g.locals.size = nL) (hstack : g.stack = As.reverse ++ .ref b :: rest) (hW : 2 * g.monitorRoom + (rest.map fun v => v.category).sum ≤ 8) (hdg : decode cc g.pc = .ok (.invokevirtual index, 3)) (hf : cells + mc ≤ R.cells ∧ slots + ms ≤ R.slots) :
    vx_Run p l e R s m args below meth c H locs cells slots mc ms g rest (Qc (Value.ref b :: As).toArray) XC free := by
  obtain ⟨hrc, hrs, hfr, hlo, hws, hcw⟩ := cw.back
  have hini := cw.init
  have hK : vx_Back l R p e below s args y 3 8 (PreOf R mc ms Pc) (PostOf Qc mc ms free) (vx_Post XC mc ms free) := vx_back (bytes := bytes) (maxL := maxL) (ret := ret) hM hp.1 hrc hrs hfr hlo hws hcw (fun a' U hW => word_at hW (Or.inl (by first | rfl | simp [Cond.onTables, Cond.keeps, Cond.steady])) hini)
  obtain ⟨hx, hb, hml, ho, -⟩ := S
  obtain ⟨-, ⟨cellB, hcB, hoB, hclB⟩, hPc⟩ := hp
  intro T hT X
  rcases vx_callVU X hx (C := C) (owner := owner) (bytes := bytes) (maxL := maxL) (ret := ret) ho cw.link cw.same cw.decl cw.notMH cw.sel cw.inst cw.code hK (by rw [hT]; exact hcB) hoB hclB hg (hsize.trans hml.symm) (argsL := As) (rest := rest) (fun sig h => hn.trans (cw.len sig h)) hstack hW (by rw [hb]; exact hdg)
    (fun vm₁ hW₁ => ⟨hf.1, hf.2, hPc (T.setVm vm₁) hT hW₁⟩) with ⟨v, vm₁, ⟨U', l2, c2, s2⟩, hW₁, X', ⟨g', mk, t, L, e1, e2, hq, h1, hL, h2, h3⟩, st⟩ | ⟨q, vm₁, ⟨U', l2, c2, s2⟩, hW₁, X', ⟨g', mk, t, L, E, ce, e1, e2, hq, hce, hcv, hcl, h1, hL, h2, h3⟩, st⟩
  · dsimp only [Pt.U, Pt.locs, Pt.cells, Pt.slots] at X' e1 e2 h1 h2 h3 st
    subst h1; subst h2; subst h3
    exact Or.inl ⟨v, (T.setVm vm₁).calling g' mk (Value.ref b :: As).toArray, t, U', L, hT, X', hL, e1, e2, hq, st⟩
  · dsimp only [Pt.U, Pt.locs, Pt.cells, Pt.slots] at X' e1 e2 h1 h2 h3 st hcl
    subst h1; subst h2; subst h3
    exact Or.inr ⟨q, (T.setVm vm₁).calling g' mk (Value.ref b :: As).toArray, t, U', L, E, ce, hT, X', hL, e1, e2, hq, hce, hcv, vx_cls hW₁ hcl, st⟩
end
/-! ===== END ===== -/
/-! ===== BEGIN super.m(..) that may throw (follows va_callSU, va_runSU) ===== -/
section
variable {p : Program} {l : Launch} {e : Env} {R : Room} {s : State} {m : MethodId} {args : Array Value} {below : List Frame} {meth : Method} {c : Code} {H : Heap} {locs : List Loc} {cells slots : Nat}
theorem vx_callSU {T : State} {locs : List Loc} {cells slots : Nat} (X : Stand p l e R s m args below meth c T locs cells slots) (hexec : p.tables.exec = Jvm.exec) {own : String} {index : Nat} {y : MethodName} {bytes : ByteArray} {maxL : Nat} {ret : Option FieldType}
    (hown : s.vm.findClass own = some m.cls) (hlink : (Cond.methodLink own index y).before args s = true) (hsame : (Cond.sameMethod y.cls y.cls y.name y.desc).before args s = true) (hsup : (Cond.superclass own y.cls).before args s = true)
    (hinst : (Cond.instanceMethod y).before args s = true) (hcode : (Cond.code y bytes maxL ret).before args s = true) (hno : y.name ≠ "<init>")
    {W : Nat} {Pre : Pt → Array Value → Prop} {Post : Pt → Array Value → Option Value → Pt → Prop} {PostX : Pt → Array Value → Addr → Pt → Prop} (hK : vx_Back l R p e below s args y 3 W Pre Post PostX)
    {b : Addr} {cellB : Cell} {kB : Class} (hcell : T.heap[b]? = some cellB) (hobj : cellB.vm.isStatics = false) (hkB : s.vm.classes[cellB.cls]? = some kB)
    {g : JFrame} (hg : g.method = m) (hsize : g.locals.size = c.maxLocals) {argsL rest : List Value} (hlen : ∀ sig, parseMethodDescriptor y.desc = some sig → argsL.length = sig.parameters.length)
    (hstack : g.stack = argsL.reverse ++ .ref b :: rest) (hW : 2 * g.monitorRoom + (rest.map fun v => v.category).sum ≤ W) (hdg : decode c.code g.pc = .ok (.invokespecial index, 3))
    (hpre : ∀ vm₁, s.WarmedH vm₁ → Pre ⟨T.setVm vm₁, locs, cells, slots⟩ (Value.ref b :: argsL).toArray) :
    (∃ (v : Option Value) (vm₁ : Vm) (B : Pt), s.WarmedH vm₁ ∧ Stand p l e R s m args below meth c B.U B.locs B.cells B.slots ∧ Post ⟨T.setVm vm₁, locs, cells, slots⟩ (Value.ref b :: argsL).toArray v B ∧
      ∀ target, Steps p.tables e below (B.U.setTop { g with pc := g.pc + 3, stack := v.toList ++ rest }) target → Steps p.tables e below (T.setTop g) target) ∨
    (∃ (q : Addr) (vm₁ : Vm) (B : Pt), s.WarmedH vm₁ ∧ Stand p l e R s m args below meth c B.U B.locs B.cells B.slots ∧ PostX ⟨T.setVm vm₁, locs, cells, slots⟩ (Value.ref b :: argsL).toArray q B ∧
      Steps p.tables e below (T.setTop g) ((B.U.setTop { g with stack := rest }).pushFrame (.throwing q))) := by
  obtain ⟨mk, methM, hnamed, hmethM, hstM, habM⟩ := Cond.instanceMethod_spec hinst
  obtain ⟨methM', cM, hmethM', -, -, -, -, -, -, hsigM⟩ := Cond.code_spec hnamed hcode
  cases hmethM.symm.trans hmethM'
  obtain ⟨ps, dk, kp, hps, hdk, hkp, hsuper, -, -, hnid⟩ := Cond.superclass_spec hown hsup
  have hn : s.methodNamed? ⟨y.cls, y.name, y.desc⟩ = some mk := hnamed
  have hpm : ps = mk.cls := Option.some.inj (hps.symm.trans (findClass_of_methodNamed hnamed))
  have hsub : s.vm.isSubclass ps mk.cls = true := by rw [hpm]; simp [Vm.isSubclass, Vm.isSubclassAux]
  obtain ⟨vm₁, X₁, hstep₁⟩ := X.invokespecialUp hexec hown hlink hsame hn hmethM hstM habM hno hdk hnid hps hsuper hsub (a := b) (cell := cellB) hcell
    (fun z h => by rw [h] at hobj; cases hobj) hkB (g := g) hg (argsL := argsL) (rest := rest) (hlen _ hsigM) hstack hdg
  rcases hK m meth c ⟨T.setVm vm₁, locs, cells, slots⟩ { g with stack := rest } (.invokespecial index) mk (Value.ref b :: argsL).toArray X₁ hg hsize hdg hW (X₁.named hnamed) (hpre vm₁ X₁.warmed) with ⟨v, B, X', hpost, hsteps⟩ | ⟨q, B, X', hpost, hsteps⟩
  · exact Or.inl ⟨v, vm₁, B, X₁.warmed, X', hpost, fun target h => hstep₁ _ (by rw [doInvoke_state]; exact hsteps.trans h)⟩
  · exact Or.inr ⟨q, vm₁, B, X₁.warmed, X', hpost, hstep₁ _ (by rw [doInvoke_state]; exact hsteps)⟩
theorem vx_runSU {y : MethodName} {bytes cc : ByteArray} {maxL nL mc ms n index : Nat} {ret : Option FieldType} {ws : List Cond} {rm : Room} {Pc : Array Value → State → Prop} {Qc : Array Value → State → Outcome → State → Prop} {XC : String → State → State → Prop} {free : Addr → Prop} {Ts : List Cond} {own C : String} {cC : ClassId} {b : Addr} {As rest : List Value} {g : JFrame}
    (hat : ClassAt s C cC) (S : CallFix p m c cc nL s args Ts own) (hM : vx_Met l y ws rm Pc Qc XC mc ms free) (cw : va_CS R s args own index y bytes maxL ret ws rm mc ms n) (hp : PreV s H C b Pc As)
    (hg : g.method = m) (hn : As.length = n) (hsize : g.locals.size = nL) (hstack : g.stack = As.reverse ++ .ref b :: rest) (hW : 2 * g.monitorRoom + (rest.map fun v => v.category).sum ≤ 8) (hdg : decode cc g.pc = .ok (.invokespecial index, 3)) (hf : cells + mc ≤ R.cells ∧ slots + ms ≤ R.slots) :
    vx_Run p l e R s m args below meth c H locs cells slots mc ms g rest (Qc (Value.ref b :: As).toArray) XC free := by
  obtain ⟨⟨hrc, hrs, hfr, hlo, hws, hcw⟩, hl1, hl2, hl3, hl4, hini, hcode, hno, hlen⟩ := cw
  have hK : vx_Back l R p e below s args y 3 8 (PreOf R mc ms Pc) (PostOf Qc mc ms free) (vx_Post XC mc ms free) := vx_back (bytes := bytes) (maxL := maxL) (ret := ret) hM hp.1 hrc hrs hfr hlo hws hcw (fun a' U hW => word_at hW (Or.inl (by first | rfl | simp [Cond.onTables, Cond.keeps, Cond.steady])) hini)
  obtain ⟨hx, hb, hml, ho, -⟩ := S
  obtain ⟨-, ⟨cellB, hcB, hoB, hclB⟩, hPc⟩ := hp
  obtain ⟨hfc, kB, hkB, -⟩ := hat
  cases hfc.symm.trans hclB
  intro T hT X
  rcases vx_callSU X hx (bytes := bytes) (maxL := maxL) (ret := ret) ho hl1 hl2 hl3 hl4 hcode hno hK (by rw [hT]; exact hcB) hoB hkB hg (hsize.trans hml.symm) (argsL := As) (rest := rest) (fun sig h => hn.trans (hlen sig h)) hstack hW (by rw [hb]; exact hdg)
    (fun vm₁ hW₁ => ⟨hf.1, hf.2, hPc (T.setVm vm₁) hT hW₁⟩) with ⟨v, vm₁, ⟨U', l2, c2, s2⟩, hW₁, X', ⟨g', mk, t, L, e1, e2, hq, h1, hL, h2, h3⟩, st⟩ | ⟨q, vm₁, ⟨U', l2, c2, s2⟩, hW₁, X', ⟨g', mk, t, L, E, ce, e1, e2, hq, hce, hcv, hcl, h1, hL, h2, h3⟩, st⟩
  · dsimp only [Pt.U, Pt.locs, Pt.cells, Pt.slots] at X' e1 e2 h1 h2 h3 st
    subst h1; subst h2; subst h3
    exact Or.inl ⟨v, (T.setVm vm₁).calling g' mk (Value.ref b :: As).toArray, t, U', L, hT, X', hL, e1, e2, hq, st⟩
  · dsimp only [Pt.U, Pt.locs, Pt.cells, Pt.slots] at X' e1 e2 h1 h2 h3 st hcl
    subst h1; subst h2; subst h3
    exact Or.inr ⟨q, (T.setVm vm₁).calling g' mk (Value.ref b :: As).toArray, t, U', L, E, ce, hT, X', hL, e1, e2, hq, hce, hcv, vx_cls hW₁ hcl, st⟩
end
/-! ===== END ===== -/
end
section
def RX0 : String := "Overwalks$Kind"
def TX0 : u_T := fun k => match k with
  | _ => ("", "", "", false)
def tyX0 : Nat → FieldType := fun k => match k with
  | _ => .int
theorem nmX0 : ∀ a, a < 0 → ∀ b, b < 0 → a ≠ b → (TX0 a).2.1 ≠ (TX0 b).2.1 := by decide +kernel
theorem tyX0_ok : ∀ k, k < 0 → parseFieldDescriptor (TX0 k).2.2.1 = some (tyX0 k) := by decide +kernel
def RX1 : String := "Overwalks$Shelf"
def TX1 : u_T := fun k => match k with
  | 0 => ("Overwalks$Shelf", "kind", "LOverwalks$Kind;", true)
  | 1 => ("Overwalks$Shelf", "things", "[I", true)
  | 2 => ("Overwalks$Shelf", "count", "I", false)
  | 3 => ("Overwalks$Shelf", "shifts", "I", false)
  | _ => ("Overwalks$Shelf", "turns", "I", false)
def tyX1 : Nat → FieldType := fun k => match k with
  | 0 => .object "Overwalks$Kind"
  | 1 => .array .int
  | 2 => .int
  | 3 => .int
  | _ => .int
theorem nmX1 : ∀ a, a < 5 → ∀ b, b < 5 → a ≠ b → (TX1 a).2.1 ≠ (TX1 b).2.1 := by decide +kernel
theorem tyX1_ok : ∀ k, k < 5 → parseFieldDescriptor (TX1 k).2.2.1 = some (tyX1 k) := by decide +kernel
abbrev cX1_init : ByteArray := prog_3_method_1_code
def yX1_init : MethodName := ⟨RX1, "<init>", "(LOverwalks$Kind;)V"⟩
abbrev cX1_isOfTable : ByteArray := prog_3_method_2_code
def yX1_isOfTable : MethodName := ⟨RX1, "isOfTable", "()Z"⟩
abbrev cX1_takesIn : ByteArray := prog_3_method_3_code
def yX1_takesIn : MethodName := ⟨RX1, "takesIn", "(I)Z"⟩
abbrev cX1_thingAt : ByteArray := prog_3_method_4_code
def yX1_thingAt : MethodName := ⟨RX1, "thingAt", "(I)I"⟩
abbrev cX1_firstPlace : ByteArray := prog_3_method_5_code
def yX1_firstPlace : MethodName := ⟨RX1, "firstPlace", "(I)I"⟩
abbrev cX1_lastPlace : ByteArray := prog_3_method_6_code
def yX1_lastPlace : MethodName := ⟨RX1, "lastPlace", "(I)I"⟩
abbrev cX1_holds : ByteArray := prog_3_method_7_code
def yX1_holds : MethodName := ⟨RX1, "holds", "(I)Z"⟩
abbrev cX1_countOf : ByteArray := prog_3_method_8_code
def yX1_countOf : MethodName := ⟨RX1, "countOf", "(I)I"⟩
abbrev cX1_risingPlace : ByteArray := prog_3_method_9_code
def yX1_risingPlace : MethodName := ⟨RX1, "risingPlace", "(I)I"⟩
abbrev cX1_layDown : ByteArray := prog_3_method_10_code
def yX1_layDown : MethodName := ⟨RX1, "layDown", "(I)Z"⟩
abbrev cX1_layAhead : ByteArray := prog_3_method_11_code
def yX1_layAhead : MethodName := ⟨RX1, "layAhead", "(II)Z"⟩
abbrev cX1_lift : ByteArray := prog_3_method_12_code
def yX1_lift : MethodName := ⟨RX1, "lift", "(I)I"⟩
abbrev cX1_liftAll : ByteArray := prog_3_method_13_code
def yX1_liftAll : MethodName := ⟨RX1, "liftAll", "()V"⟩
abbrev cX1_exchange : ByteArray := prog_3_method_14_code
def yX1_exchange : MethodName := ⟨RX1, "exchange", "(II)I"⟩
abbrev cX1_reverse : ByteArray := prog_3_method_15_code
def yX1_reverse : MethodName := ⟨RX1, "reverse", "(II)V"⟩
abbrev cX1_moveOn : ByteArray := prog_3_method_16_code
def yX1_moveOn : MethodName := ⟨RX1, "moveOn", "(I)V"⟩
abbrev cX1_becomeListOf : ByteArray := prog_3_method_17_code
def yX1_becomeListOf : MethodName := ⟨RX1, "becomeListOf", "(LOverwalks$Shelf;I)V"⟩
abbrev cX1_rises : ByteArray := prog_3_method_18_code
def yX1_rises : MethodName := ⟨RX1, "rises", "()Z"⟩
abbrev cX1_hasEachOnce : ByteArray := prog_3_method_19_code
def yX1_hasEachOnce : MethodName := ⟨RX1, "hasEachOnce", "()Z"⟩
def RX2 : String := "Overwalks$Walk"
def TX2 : u_T := fun k => match k with
  | 0 => ("Overwalks$Walk", "isMade", "Z", false)
  | 1 => ("Overwalks$Walk", "over", "LOverwalks$Shelf;", false)
  | 2 => ("Overwalks$Walk", "shelf", "I", false)
  | 3 => ("Overwalks$Walk", "how", "I", false)
  | 4 => ("Overwalks$Walk", "given", "I", false)
  | 5 => ("Overwalks$Walk", "takenOut", "I", false)
  | 6 => ("Overwalks$Walk", "shiftsSeen", "I", false)
  | 7 => ("Overwalks$Walk", "turnsSeen", "I", false)
  | _ => ("Overwalks$Walk", "hasLast", "Z", false)
def tyX2 : Nat → FieldType := fun k => match k with
  | 0 => .boolean
  | 1 => .object "Overwalks$Shelf"
  | 2 => .int
  | 3 => .int
  | 4 => .int
  | 5 => .int
  | 6 => .int
  | 7 => .int
  | _ => .boolean
theorem nmX2 : ∀ a, a < 9 → ∀ b, b < 9 → a ≠ b → (TX2 a).2.1 ≠ (TX2 b).2.1 := by decide +kernel
theorem tyX2_ok : ∀ k, k < 9 → parseFieldDescriptor (TX2 k).2.2.1 = some (tyX2 k) := by decide +kernel
abbrev cX2_init : ByteArray := prog_4_method_1_code
def yX2_init : MethodName := ⟨RX2, "<init>", "(LOverwalks$Shelf;)V"⟩
abbrev cX2_begin : ByteArray := prog_4_method_2_code
def yX2_begin : MethodName := ⟨RX2, "begin", "(LOverwalks$Shelf;II)V"⟩
abbrev cX2_isStale : ByteArray := prog_4_method_3_code
def yX2_isStale : MethodName := ⟨RX2, "isStale", "()Z"⟩
abbrev cX2_ahead : ByteArray := prog_4_method_4_code
def yX2_ahead : MethodName := ⟨RX2, "ahead", "()I"⟩
abbrev cX2_hasMore : ByteArray := prog_4_method_5_code
def yX2_hasMore : MethodName := ⟨RX2, "hasMore", "()Z"⟩
abbrev cX2_canGiveAll : ByteArray := prog_4_method_6_code
def yX2_canGiveAll : MethodName := ⟨RX2, "canGiveAll", "()Z"⟩
abbrev cX2_canTakeOut : ByteArray := prog_4_method_7_code
def yX2_canTakeOut : MethodName := ⟨RX2, "canTakeOut", "()Z"⟩
abbrev cX2_give : ByteArray := prog_4_method_8_code
def yX2_give : MethodName := ⟨RX2, "give", "()I"⟩
abbrev cX2_giveUpTo : ByteArray := prog_4_method_9_code
def yX2_giveUpTo : MethodName := ⟨RX2, "giveUpTo", "(I)I"⟩
abbrev cX2_tookOut : ByteArray := prog_4_method_10_code
def yX2_tookOut : MethodName := ⟨RX2, "tookOut", "()V"⟩
def RX3 : String := "Overwalks"
def TX3 : u_T := fun k => match k with
  | 0 => ("Overwalks", "shelves", "[LOverwalks$Shelf;", true)
  | 1 => ("Overwalks", "walks", "[LOverwalks$Walk;", true)
  | 2 => ("Overwalks", "probe", "LOverwalks$Walk;", true)
  | 3 => ("Overwalks", "otherProbe", "LOverwalks$Walk;", true)
  | 4 => ("Overwalks", "probeList", "LOverwalks$Shelf;", true)
  | 5 => ("Overwalks", "refusals", "I", false)
  | _ => ("Overwalks", "knocks", "I", false)
def tyX3 : Nat → FieldType := fun k => match k with
  | 0 => .array (.object "Overwalks$Shelf")
  | 1 => .array (.object "Overwalks$Walk")
  | 2 => .object "Overwalks$Walk"
  | 3 => .object "Overwalks$Walk"
  | 4 => .object "Overwalks$Shelf"
  | 5 => .int
  | _ => .int
theorem nmX3 : ∀ a, a < 7 → ∀ b, b < 7 → a ≠ b → (TX3 a).2.1 ≠ (TX3 b).2.1 := by decide +kernel
theorem tyX3_ok : ∀ k, k < 7 → parseFieldDescriptor (TX3 k).2.2.1 = some (tyX3 k) := by decide +kernel
abbrev cX3_init : ByteArray := prog_1_method_1_code
def yX3_init : MethodName := ⟨RX3, "<init>", "()V"⟩
abbrev cX3_put : ByteArray := prog_1_method_2_code
def yX3_put : MethodName := ⟨RX3, "put", "(II)I"⟩
abbrev cX3_putAll : ByteArray := prog_1_method_3_code
def yX3_putAll : MethodName := ⟨RX3, "putAll", "(IIIII)I"⟩
abbrev cX3_take : ByteArray := prog_1_method_4_code
def yX3_take : MethodName := ⟨RX3, "take", "(II)I"⟩
abbrev cX3_clear : ByteArray := prog_1_method_5_code
def yX3_clear : MethodName := ⟨RX3, "clear", "(I)I"⟩
abbrev cX3_pair : ByteArray := prog_1_method_6_code
def yX3_pair : MethodName := ⟨RX3, "pair", "(II)I"⟩
abbrev cX3_pour : ByteArray := prog_1_method_7_code
def yX3_pour : MethodName := ⟨RX3, "pour", "(II)I"⟩
abbrev cX3_change : ByteArray := prog_1_method_8_code
def yX3_change : MethodName := ⟨RX3, "change", "(III)I"⟩
abbrev cX3_insert : ByteArray := prog_1_method_9_code
def yX3_insert : MethodName := ⟨RX3, "insert", "(III)I"⟩
abbrev cX3_remove : ByteArray := prog_1_method_10_code
def yX3_remove : MethodName := ⟨RX3, "remove", "(II)I"⟩
abbrev cX3_turn : ByteArray := prog_1_method_11_code
def yX3_turn : MethodName := ⟨RX3, "turn", "(I)I"⟩
abbrev cX3_rotate : ByteArray := prog_1_method_12_code
def yX3_rotate : MethodName := ⟨RX3, "rotate", "(II)I"⟩
abbrev cX3_swap : ByteArray := prog_1_method_13_code
def yX3_swap : MethodName := ⟨RX3, "swap", "(III)I"⟩
abbrev cX3_fill : ByteArray := prog_1_method_14_code
def yX3_fill : MethodName := ⟨RX3, "fill", "(II)I"⟩
abbrev cX3_replace : ByteArray := prog_1_method_15_code
def yX3_replace : MethodName := ⟨RX3, "replace", "(III)I"⟩
abbrev cX3_copies : ByteArray := prog_1_method_16_code
def yX3_copies : MethodName := ⟨RX3, "copies", "(III)I"⟩
abbrev cX3_walk : ByteArray := prog_1_method_17_code
def yX3_walk : MethodName := ⟨RX3, "walk", "(III)I"⟩
abbrev cX3_next : ByteArray := prog_1_method_18_code
def yX3_next : MethodName := ⟨RX3, "next", "(I)I"⟩
abbrev cX3_more : ByteArray := prog_1_method_19_code
def yX3_more : MethodName := ⟨RX3, "more", "(I)I"⟩
abbrev cX3_takeOut : ByteArray := prog_1_method_20_code
def yX3_takeOut : MethodName := ⟨RX3, "takeOut", "(I)I"⟩
abbrev cX3_rest : ByteArray := prog_1_method_21_code
def yX3_rest : MethodName := ⟨RX3, "rest", "(I)Ljava/lang/String;"⟩
abbrev cX3_keepRest : ByteArray := prog_1_method_22_code
def yX3_keepRest : MethodName := ⟨RX3, "keepRest", "(II)I"⟩
abbrev cX3_keep : ByteArray := prog_1_method_23_code
def yX3_keep : MethodName := ⟨RX3, "keep", "(II)I"⟩
abbrev cX3_drop : ByteArray := prog_1_method_24_code
def yX3_drop : MethodName := ⟨RX3, "drop", "(I)I"⟩
abbrev cX3_skip : ByteArray := prog_1_method_25_code
def yX3_skip : MethodName := ⟨RX3, "skip", "(II)I"⟩
abbrev cX3_pourRest : ByteArray := prog_1_method_26_code
def yX3_pourRest : MethodName := ⟨RX3, "pourRest", "(II)I"⟩
abbrev cX3_zip : ByteArray := prog_1_method_27_code
def yX3_zip : MethodName := ⟨RX3, "zip", "(II)Ljava/lang/String;"⟩
abbrev cX3_text : ByteArray := prog_1_method_28_code
def yX3_text : MethodName := ⟨RX3, "text", "(I)Ljava/lang/String;"⟩
abbrev cX3_list : ByteArray := prog_1_method_29_code
def yX3_list : MethodName := ⟨RX3, "list", "(I)Ljava/lang/String;"⟩
abbrev cX3_size : ByteArray := prog_1_method_30_code
def yX3_size : MethodName := ⟨RX3, "size", "(I)I"⟩
abbrev cX3_isEmpty : ByteArray := prog_1_method_31_code
def yX3_isEmpty : MethodName := ⟨RX3, "isEmpty", "(I)Z"⟩
abbrev cX3_has : ByteArray := prog_1_method_32_code
def yX3_has : MethodName := ⟨RX3, "has", "(II)I"⟩
abbrev cX3_often : ByteArray := prog_1_method_33_code
def yX3_often : MethodName := ⟨RX3, "often", "(II)I"⟩
abbrev cX3_placeOf : ByteArray := prog_1_method_34_code
def yX3_placeOf : MethodName := ⟨RX3, "placeOf", "(IIZ)I"⟩
abbrev cX3_disjoint : ByteArray := prog_1_method_35_code
def yX3_disjoint : MethodName := ⟨RX3, "disjoint", "(II)I"⟩
abbrev cX3_end : ByteArray := prog_1_method_36_code
def yX3_end : MethodName := ⟨RX3, "end", "(IZ)I"⟩
abbrev cX3_code : ByteArray := prog_1_method_37_code
def yX3_code : MethodName := ⟨RX3, "code", "(I)I"⟩
abbrev cX3_areAlike : ByteArray := prog_1_method_38_code
def yX3_areAlike : MethodName := ⟨RX3, "areAlike", "(II)Z"⟩
abbrev cX3_first : ByteArray := prog_1_method_39_code
def yX3_first : MethodName := ⟨RX3, "first", "(IZ)I"⟩
abbrev cX3_valueOf : ByteArray := prog_1_method_40_code
def yX3_valueOf : MethodName := ⟨RX3, "valueOf", "(I)I"⟩
abbrev cX3_ofWalk : ByteArray := prog_1_method_41_code
def yX3_ofWalk : MethodName := ⟨RX3, "ofWalk", "(II)I"⟩
abbrev cX3_house : ByteArray := prog_1_method_42_code
def yX3_house : MethodName := ⟨RX3, "house", "(I)I"⟩
abbrev cX3_knock : ByteArray := prog_1_method_43_code
def yX3_knock : MethodName := ⟨RX3, "knock", "()I"⟩
abbrev cX3_isSound : ByteArray := prog_1_method_44_code
def yX3_isSound : MethodName := ⟨RX3, "isSound", "()Z"⟩
abbrev cX3_digest : ByteArray := prog_1_method_45_code
def yX3_digest : MethodName := ⟨RX3, "digest", "()J"⟩
abbrev cX3_shelfAt : ByteArray := prog_1_method_46_code
def yX3_shelfAt : MethodName := ⟨RX3, "shelfAt", "(I)LOverwalks$Shelf;"⟩
abbrev cX3_rowAt : ByteArray := prog_1_method_47_code
def yX3_rowAt : MethodName := ⟨RX3, "rowAt", "(I)LOverwalks$Shelf;"⟩
abbrev cX3_listAt : ByteArray := prog_1_method_48_code
def yX3_listAt : MethodName := ⟨RX3, "listAt", "(I)LOverwalks$Shelf;"⟩
abbrev cX3_walkAt : ByteArray := prog_1_method_49_code
def yX3_walkAt : MethodName := ⟨RX3, "walkAt", "(I)LOverwalks$Walk;"⟩
abbrev cX3_requireMade : ByteArray := prog_1_method_50_code
def yX3_requireMade : MethodName := ⟨RX3, "requireMade", "(LOverwalks$Walk;)V"⟩
abbrev cX3_requirePlace : ByteArray := prog_1_method_51_code
def yX3_requirePlace : MethodName := ⟨RX3, "requirePlace", "(II)V"⟩
abbrev cX3_requireThing : ByteArray := prog_1_method_52_code
def yX3_requireThing : MethodName := ⟨RX3, "requireThing", "(I)V"⟩
abbrev cX3_requireThingOrNothing : ByteArray := prog_1_method_53_code
def yX3_requireThingOrNothing : MethodName := ⟨RX3, "requireThingOrNothing", "(I)V"⟩
abbrev cX3_requireThingNothingOrNone : ByteArray := prog_1_method_54_code
def yX3_requireThingNothingOrNone : MethodName := ⟨RX3, "requireThingNothingOrNone", "(I)V"⟩
abbrev cX3_requireUpToRoom : ByteArray := prog_1_method_55_code
def yX3_requireUpToRoom : MethodName := ⟨RX3, "requireUpToRoom", "(I)V"⟩
abbrev cX3_requireRoom : ByteArray := prog_1_method_56_code
def yX3_requireRoom : MethodName := ⟨RX3, "requireRoom", "(LOverwalks$Shelf;I)V"⟩
abbrev cX3_refuse : ByteArray := prog_1_method_57_code
def yX3_refuse : MethodName := ⟨RX3, "refuse", "()I"⟩
abbrev cX3_oneIf : ByteArray := prog_1_method_58_code
def yX3_oneIf : MethodName := ⟨RX3, "oneIf", "(Z)I"⟩
abbrev cX3_countToFirstNone : ByteArray := prog_1_method_59_code
def yX3_countToFirstNone : MethodName := ⟨RX3, "countToFirstNone", "(IIII)I"⟩
abbrev cX3_oneOfFour : ByteArray := prog_1_method_60_code
def yX3_oneOfFour : MethodName := ⟨RX3, "oneOfFour", "(IIIII)I"⟩
abbrev cX3_liftFrom : ByteArray := prog_1_method_61_code
def yX3_liftFrom : MethodName := ⟨RX3, "liftFrom", "(LOverwalks$Shelf;I)V"⟩
abbrev cX3_cannotPour : ByteArray := prog_1_method_62_code
def yX3_cannotPour : MethodName := ⟨RX3, "cannotPour", "(LOverwalks$Shelf;LOverwalks$Shelf;)Z"⟩
abbrev cX3_hasNothingsThatAreNotTaken : ByteArray := prog_1_method_63_code
def yX3_hasNothingsThatAreNotTaken : MethodName := ⟨RX3, "hasNothingsThatAreNotTaken", "(LOverwalks$Shelf;LOverwalks$Shelf;)Z"⟩
abbrev cX3_pourBehind : ByteArray := prog_1_method_64_code
def yX3_pourBehind : MethodName := ⟨RX3, "pourBehind", "(LOverwalks$Shelf;ILOverwalks$Shelf;)Z"⟩
abbrev cX3_listRest : ByteArray := prog_1_method_65_code
def yX3_listRest : MethodName := ⟨RX3, "listRest", "(LOverwalks$Walk;LOverwalks$Shelf;)I"⟩
abbrev cX3_haveTheSame : ByteArray := prog_1_method_66_code
def yX3_haveTheSame : MethodName := ⟨RX3, "haveTheSame", "(LOverwalks$Shelf;LOverwalks$Shelf;)Z"⟩
abbrev cX3_textBehind : ByteArray := prog_1_method_67_code
def yX3_textBehind : MethodName := ⟨RX3, "textBehind", "(LOverwalks$Shelf;I)Ljava/lang/String;"⟩
abbrev cX3_appendBlankBehindFirst : ByteArray := prog_1_method_68_code
def yX3_appendBlankBehindFirst : MethodName := ⟨RX3, "appendBlankBehindFirst", "(Ljava/lang/StringBuilder;I)V"⟩
abbrev cX3_appendThing : ByteArray := prog_1_method_69_code
def yX3_appendThing : MethodName := ⟨RX3, "appendThing", "(Ljava/lang/StringBuilder;I)V"⟩
abbrev cX3_countThings : ByteArray := prog_1_method_70_code
def yX3_countThings : MethodName := ⟨RX3, "countThings", "()I"⟩
abbrev cX3_countNothings : ByteArray := prog_1_method_71_code
def yX3_countNothings : MethodName := ⟨RX3, "countNothings", "()I"⟩
abbrev cX3_countWalks : ByteArray := prog_1_method_72_code
def yX3_countWalks : MethodName := ⟨RX3, "countWalks", "()I"⟩
abbrev cX3_countStaleWalks : ByteArray := prog_1_method_73_code
def yX3_countStaleWalks : MethodName := ⟨RX3, "countStaleWalks", "()I"⟩
abbrev cX3_giveTheSame : ByteArray := prog_1_method_74_code
def yX3_giveTheSame : MethodName := ⟨RX3, "giveTheSame", "(III)Z"⟩
abbrev cX3_isItsList : ByteArray := prog_1_method_75_code
def yX3_isItsList : MethodName := ⟨RX3, "isItsList", "(I)Z"⟩
abbrev cX3_isItsListBehindOneStep : ByteArray := prog_1_method_76_code
def yX3_isItsListBehindOneStep : MethodName := ⟨RX3, "isItsListBehindOneStep", "(I)Z"⟩
def RX4 : String := "OverwalksLaw$Out"
def TX4 : u_T := fun k => match k with
  | 0 => ("OverwalksLaw$Out", "n", "J", false)
  | _ => ("OverwalksLaw$Out", "s", "Ljava/lang/String;", false)
def tyX4 : Nat → FieldType := fun k => match k with
  | 0 => .long
  | _ => .object "java/lang/String"
theorem nmX4 : ∀ a, a < 2 → ∀ b, b < 2 → a ≠ b → (TX4 a).2.1 ≠ (TX4 b).2.1 := by decide +kernel
theorem tyX4_ok : ∀ k, k < 2 → parseFieldDescriptor (TX4 k).2.2.1 = some (tyX4 k) := by decide +kernel
abbrev cX4_init : ByteArray := prog_6_method_1_code
def yX4_init : MethodName := ⟨RX4, "<init>", "()V"⟩
def RX5 : String := "OverwalksModel"
def TX5 : u_T := fun k => match k with
  | 0 => ("OverwalksModel", "thrown", "I", false)
  | 1 => ("OverwalksModel", "knocks", "I", false)
  | 2 => ("OverwalksModel", "refusals", "I", false)
  | 3 => ("OverwalksModel", "rows", "[[I", true)
  | 4 => ("OverwalksModel", "sizes", "[I", true)
  | 5 => ("OverwalksModel", "shifts", "[I", true)
  | 6 => ("OverwalksModel", "shelves", "[I", true)
  | 7 => ("OverwalksModel", "hows", "[I", true)
  | 8 => ("OverwalksModel", "given", "[I", true)
  | 9 => ("OverwalksModel", "stamps", "[I", true)
  | 10 => ("OverwalksModel", "places", "[I", true)
  | 11 => ("OverwalksModel", "canTake", "[Z", true)
  | 12 => ("OverwalksModel", "turns", "[I", true)
  | _ => ("OverwalksModel", "turned", "[I", true)
def tyX5 : Nat → FieldType := fun k => match k with
  | 0 => .int
  | 1 => .int
  | 2 => .int
  | 3 => .array (.array .int)
  | 4 => .array .int
  | 5 => .array .int
  | 6 => .array .int
  | 7 => .array .int
  | 8 => .array .int
  | 9 => .array .int
  | 10 => .array .int
  | 11 => .array .boolean
  | 12 => .array .int
  | _ => .array .int
theorem nmX5 : ∀ a, a < 14 → ∀ b, b < 14 → a ≠ b → (TX5 a).2.1 ≠ (TX5 b).2.1 := by decide +kernel
theorem tyX5_ok : ∀ k, k < 14 → parseFieldDescriptor (TX5 k).2.2.1 = some (tyX5 k) := by decide +kernel
abbrev cX5_init : ByteArray := prog_7_method_1_code
def yX5_init : MethodName := ⟨RX5, "<init>", "()V"⟩
abbrev cX5_thrown : ByteArray := prog_7_method_2_code
def yX5_thrown : MethodName := ⟨RX5, "thrown", "()I"⟩
abbrev cX5_isIn : ByteArray := prog_7_method_3_code
def yX5_isIn : MethodName := ⟨RX5, "isIn", "(III)Z"⟩
abbrev cX5_one : ByteArray := prog_7_method_4_code
def yX5_one : MethodName := ⟨RX5, "one", "(Z)I"⟩
abbrev cX5_isStopped : ByteArray := prog_7_method_5_code
def yX5_isStopped : MethodName := ⟨RX5, "isStopped", "(ZZZ)Z"⟩
abbrev cX5_isStopped_ : ByteArray := prog_7_method_6_code
def yX5_isStopped_ : MethodName := ⟨RX5, "isStopped", "(ZZ)Z"⟩
abbrev cX5_isStopped__ : ByteArray := prog_7_method_7_code
def yX5_isStopped__ : MethodName := ⟨RX5, "isStopped", "(Z)Z"⟩
abbrev cX5_no : ByteArray := prog_7_method_8_code
def yX5_no : MethodName := ⟨RX5, "no", "()I"⟩
abbrev cX5_noText : ByteArray := prog_7_method_9_code
def yX5_noText : MethodName := ⟨RX5, "noText", "()Ljava/lang/String;"⟩
abbrev cX5_isNone : ByteArray := prog_7_method_10_code
def yX5_isNone : MethodName := ⟨RX5, "isNone", "(I)Z"⟩
abbrev cX5_isNoRow : ByteArray := prog_7_method_11_code
def yX5_isNoRow : MethodName := ⟨RX5, "isNoRow", "(I)Z"⟩
abbrev cX5_isNoList : ByteArray := prog_7_method_12_code
def yX5_isNoList : MethodName := ⟨RX5, "isNoList", "(I)Z"⟩
abbrev cX5_isNoThing : ByteArray := prog_7_method_13_code
def yX5_isNoThing : MethodName := ⟨RX5, "isNoThing", "(I)Z"⟩
abbrev cX5_isTable : ByteArray := prog_7_method_14_code
def yX5_isTable : MethodName := ⟨RX5, "isTable", "(I)Z"⟩
abbrev cX5_takesNothing : ByteArray := prog_7_method_15_code
def yX5_takesNothing : MethodName := ⟨RX5, "takesNothing", "(I)Z"⟩
abbrev cX5_isNoPlace : ByteArray := prog_7_method_16_code
def yX5_isNoPlace : MethodName := ⟨RX5, "isNoPlace", "(II)Z"⟩
abbrev cX5_hasNothing : ByteArray := prog_7_method_17_code
def yX5_hasNothing : MethodName := ⟨RX5, "hasNothing", "(I)Z"⟩
abbrev cX5_count : ByteArray := prog_7_method_18_code
def yX5_count : MethodName := ⟨RX5, "count", "(II)I"⟩
abbrev cX5_firstPlace : ByteArray := prog_7_method_19_code
def yX5_firstPlace : MethodName := ⟨RX5, "firstPlace", "(II)I"⟩
abbrev cX5_comeAt : ByteArray := prog_7_method_20_code
def yX5_comeAt : MethodName := ⟨RX5, "comeAt", "(III)V"⟩
abbrev cX5_goAt : ByteArray := prog_7_method_21_code
def yX5_goAt : MethodName := ⟨RX5, "goAt", "(II)V"⟩
abbrev cX5_leave : ByteArray := prog_7_method_22_code
def yX5_leave : MethodName := ⟨RX5, "leave", "(II)V"⟩
abbrev cX5_come : ByteArray := prog_7_method_23_code
def yX5_come : MethodName := ⟨RX5, "come", "(II)Z"⟩
abbrev cX5_comeAll : ByteArray := prog_7_method_24_code
def yX5_comeAll : MethodName := ⟨RX5, "comeAll", "(I[II)I"⟩
abbrev cX5_picture : ByteArray := prog_7_method_25_code
def yX5_picture : MethodName := ⟨RX5, "picture", "(II)[I"⟩
abbrev cX5_empty : ByteArray := prog_7_method_26_code
def yX5_empty : MethodName := ⟨RX5, "empty", "(I)V"⟩
abbrev cX5_put : ByteArray := prog_7_method_27_code
def yX5_put : MethodName := ⟨RX5, "put", "(II)I"⟩
abbrev cX5_putAll : ByteArray := prog_7_method_28_code
def yX5_putAll : MethodName := ⟨RX5, "putAll", "(IIIII)I"⟩
abbrev cX5_take : ByteArray := prog_7_method_29_code
def yX5_take : MethodName := ⟨RX5, "take", "(II)I"⟩
abbrev cX5_clear : ByteArray := prog_7_method_30_code
def yX5_clear : MethodName := ⟨RX5, "clear", "(I)I"⟩
abbrev cX5_pair : ByteArray := prog_7_method_31_code
def yX5_pair : MethodName := ⟨RX5, "pair", "(II)I"⟩
abbrev cX5_pour : ByteArray := prog_7_method_32_code
def yX5_pour : MethodName := ⟨RX5, "pour", "(II)I"⟩
abbrev cX5_change : ByteArray := prog_7_method_33_code
def yX5_change : MethodName := ⟨RX5, "change", "(III)I"⟩
abbrev cX5_insert : ByteArray := prog_7_method_34_code
def yX5_insert : MethodName := ⟨RX5, "insert", "(III)I"⟩
abbrev cX5_remove : ByteArray := prog_7_method_35_code
def yX5_remove : MethodName := ⟨RX5, "remove", "(II)I"⟩
abbrev cX5_turn : ByteArray := prog_7_method_36_code
def yX5_turn : MethodName := ⟨RX5, "turn", "(I)I"⟩
abbrev cX5_rotate : ByteArray := prog_7_method_37_code
def yX5_rotate : MethodName := ⟨RX5, "rotate", "(II)I"⟩
abbrev cX5_swap : ByteArray := prog_7_method_38_code
def yX5_swap : MethodName := ⟨RX5, "swap", "(III)I"⟩
abbrev cX5_fill : ByteArray := prog_7_method_39_code
def yX5_fill : MethodName := ⟨RX5, "fill", "(II)I"⟩
abbrev cX5_replace : ByteArray := prog_7_method_40_code
def yX5_replace : MethodName := ⟨RX5, "replace", "(III)I"⟩
abbrev cX5_copies : ByteArray := prog_7_method_41_code
def yX5_copies : MethodName := ⟨RX5, "copies", "(III)I"⟩
abbrev cX5_isNoWalk : ByteArray := prog_7_method_42_code
def yX5_isNoWalk : MethodName := ⟨RX5, "isNoWalk", "(I)Z"⟩
abbrev cX5_isUnmade : ByteArray := prog_7_method_43_code
def yX5_isUnmade : MethodName := ⟨RX5, "isUnmade", "(I)Z"⟩
abbrev cX5_isStale : ByteArray := prog_7_method_44_code
def yX5_isStale : MethodName := ⟨RX5, "isStale", "(I)Z"⟩
abbrev cX5_hasMore : ByteArray := prog_7_method_45_code
def yX5_hasMore : MethodName := ⟨RX5, "hasMore", "(I)Z"⟩
abbrev cX5_give : ByteArray := prog_7_method_46_code
def yX5_give : MethodName := ⟨RX5, "give", "(I)I"⟩
abbrev cX5_walk : ByteArray := prog_7_method_47_code
def yX5_walk : MethodName := ⟨RX5, "walk", "(III)I"⟩
abbrev cX5_next : ByteArray := prog_7_method_48_code
def yX5_next : MethodName := ⟨RX5, "next", "(I)I"⟩
abbrev cX5_more : ByteArray := prog_7_method_49_code
def yX5_more : MethodName := ⟨RX5, "more", "(I)I"⟩
abbrev cX5_takeOut : ByteArray := prog_7_method_50_code
def yX5_takeOut : MethodName := ⟨RX5, "takeOut", "(I)I"⟩
abbrev cX5_left : ByteArray := prog_7_method_51_code
def yX5_left : MethodName := ⟨RX5, "left", "(I)[I"⟩
abbrev cX5_sign : ByteArray := prog_7_method_52_code
def yX5_sign : MethodName := ⟨RX5, "sign", "(I)Ljava/lang/String;"⟩
abbrev cX5_text : ByteArray := prog_7_method_53_code
def yX5_text : MethodName := ⟨RX5, "text", "([I)Ljava/lang/String;"⟩
abbrev cX5_rest : ByteArray := prog_7_method_54_code
def yX5_rest : MethodName := ⟨RX5, "rest", "(I)Ljava/lang/String;"⟩
abbrev cX5_made : ByteArray := prog_7_method_55_code
def yX5_made : MethodName := ⟨RX5, "made", "(I[I)I"⟩
abbrev cX5_keepRest : ByteArray := prog_7_method_56_code
def yX5_keepRest : MethodName := ⟨RX5, "keepRest", "(II)I"⟩
abbrev cX5_keep : ByteArray := prog_7_method_57_code
def yX5_keep : MethodName := ⟨RX5, "keep", "(II)I"⟩
abbrev cX5_drop : ByteArray := prog_7_method_58_code
def yX5_drop : MethodName := ⟨RX5, "drop", "(I)I"⟩
abbrev cX5_skip : ByteArray := prog_7_method_59_code
def yX5_skip : MethodName := ⟨RX5, "skip", "(II)I"⟩
abbrev cX5_pourRest : ByteArray := prog_7_method_60_code
def yX5_pourRest : MethodName := ⟨RX5, "pourRest", "(II)I"⟩
abbrev cX5_zip : ByteArray := prog_7_method_61_code
def yX5_zip : MethodName := ⟨RX5, "zip", "(II)Ljava/lang/String;"⟩
abbrev cX5_text_ : ByteArray := prog_7_method_62_code
def yX5_text_ : MethodName := ⟨RX5, "text", "(I)Ljava/lang/String;"⟩
abbrev cX5_list : ByteArray := prog_7_method_63_code
def yX5_list : MethodName := ⟨RX5, "list", "(I)Ljava/lang/String;"⟩
abbrev cX5_size : ByteArray := prog_7_method_64_code
def yX5_size : MethodName := ⟨RX5, "size", "(I)I"⟩
abbrev cX5_isEmpty : ByteArray := prog_7_method_65_code
def yX5_isEmpty : MethodName := ⟨RX5, "isEmpty", "(I)Z"⟩
abbrev cX5_has : ByteArray := prog_7_method_66_code
def yX5_has : MethodName := ⟨RX5, "has", "(II)I"⟩
abbrev cX5_often : ByteArray := prog_7_method_67_code
def yX5_often : MethodName := ⟨RX5, "often", "(II)I"⟩
abbrev cX5_placeOf : ByteArray := prog_7_method_68_code
def yX5_placeOf : MethodName := ⟨RX5, "placeOf", "(IIZ)I"⟩
abbrev cX5_disjoint : ByteArray := prog_7_method_69_code
def yX5_disjoint : MethodName := ⟨RX5, "disjoint", "(II)I"⟩
abbrev cX5_end : ByteArray := prog_7_method_70_code
def yX5_end : MethodName := ⟨RX5, "end", "(IZ)I"⟩
abbrev cX5_code : ByteArray := prog_7_method_71_code
def yX5_code : MethodName := ⟨RX5, "code", "(I)I"⟩
abbrev cX5_areAlike : ByteArray := prog_7_method_72_code
def yX5_areAlike : MethodName := ⟨RX5, "areAlike", "(II)Z"⟩
abbrev cX5_first : ByteArray := prog_7_method_73_code
def yX5_first : MethodName := ⟨RX5, "first", "(IZ)I"⟩
abbrev cX5_valueOf : ByteArray := prog_7_method_74_code
def yX5_valueOf : MethodName := ⟨RX5, "valueOf", "(I)I"⟩
abbrev cX5_told : ByteArray := prog_7_method_75_code
def yX5_told : MethodName := ⟨RX5, "told", "(II)I"⟩
abbrev cX5_ofWalk : ByteArray := prog_7_method_76_code
def yX5_ofWalk : MethodName := ⟨RX5, "ofWalk", "(II)I"⟩
abbrev cX5_houseTold : ByteArray := prog_7_method_77_code
def yX5_houseTold : MethodName := ⟨RX5, "houseTold", "(I)I"⟩
abbrev cX5_house : ByteArray := prog_7_method_78_code
def yX5_house : MethodName := ⟨RX5, "house", "(I)I"⟩
abbrev cX5_knock : ByteArray := prog_7_method_79_code
def yX5_knock : MethodName := ⟨RX5, "knock", "()I"⟩
abbrev cX5_isSound : ByteArray := prog_7_method_80_code
def yX5_isSound : MethodName := ⟨RX5, "isSound", "()Z"⟩
abbrev cX5_digest : ByteArray := prog_7_method_81_code
def yX5_digest : MethodName := ⟨RX5, "digest", "()J"⟩
def RJ5 : String := "java/lang/AbstractStringBuilder"
def TJ5 : u_T := fun k => match k with
  | _ => ("", "", "", false)
def tyJ5 : Nat → FieldType := fun k => match k with
  | _ => .int
theorem nmJ5 : ∀ a, a < 0 → ∀ b, b < 0 → a ≠ b → (TJ5 a).2.1 ≠ (TJ5 b).2.1 := by decide +kernel
theorem tyJ5_ok : ∀ k, k < 0 → parseFieldDescriptor (TJ5 k).2.2.1 = some (tyJ5 k) := by decide +kernel
abbrev cJ5_init_d00df : ByteArray := prog_8_method_2_code
def yJ5_init_d00df : MethodName := ⟨RJ5, "<init>", "(I)V"⟩
abbrev cJ5_length_8abf5 : ByteArray := prog_8_method_6_code
def yJ5_length_8abf5 : MethodName := ⟨RJ5, "length", "()I"⟩
abbrev cJ5_ensureCapacityInternal_d00df : ByteArray := prog_8_method_9_code
def yJ5_ensureCapacityInternal_d00df : MethodName := ⟨RJ5, "ensureCapacityInternal", "(I)V"⟩
abbrev cJ5_newCapacity_0f7a4 : ByteArray := prog_8_method_10_code
def yJ5_newCapacity_0f7a4 : MethodName := ⟨RJ5, "newCapacity", "(I)I"⟩
abbrev cJ5_inflate_da8c8 : ByteArray := prog_8_method_11_code
def yJ5_inflate_da8c8 : MethodName := ⟨RJ5, "inflate", "()V"⟩
abbrev cJ5_append_cf1ce : ByteArray := prog_8_method_22_code
def yJ5_append_cf1ce : MethodName := ⟨RJ5, "append", "(Ljava/lang/String;)Ljava/lang/AbstractStringBuilder;"⟩
abbrev cJ5_appendNull_278bc : ByteArray := prog_8_method_26_code
def yJ5_appendNull_278bc : MethodName := ⟨RJ5, "appendNull", "()Ljava/lang/AbstractStringBuilder;"⟩
abbrev cJ5_append_3fe6f : ByteArray := prog_8_method_31_code
def yJ5_append_3fe6f : MethodName := ⟨RJ5, "append", "(C)Ljava/lang/AbstractStringBuilder;"⟩
abbrev cJ5_append_c97b9 : ByteArray := prog_8_method_32_code
def yJ5_append_c97b9 : MethodName := ⟨RJ5, "append", "(I)Ljava/lang/AbstractStringBuilder;"⟩
abbrev cJ5_getValue_6d5f1 : ByteArray := prog_8_method_64_code
def yJ5_getValue_6d5f1 : MethodName := ⟨RJ5, "getValue", "()[B"⟩
abbrev cJ5_isLatin1_aae02 : ByteArray := prog_8_method_68_code
def yJ5_isLatin1_aae02 : MethodName := ⟨RJ5, "isLatin1", "()Z"⟩
abbrev cJ5_inflateIfNeededFor_a7421 : ByteArray := prog_8_method_71_code
def yJ5_inflateIfNeededFor_a7421 : MethodName := ⟨RJ5, "inflateIfNeededFor", "(Ljava/lang/String;)V"⟩
abbrev cJ5_putStringAt_47b60 : ByteArray := prog_8_method_73_code
def yJ5_putStringAt_47b60 : MethodName := ⟨RJ5, "putStringAt", "(ILjava/lang/String;)V"⟩
def RJx8e188 : String := "java/lang/Cloneable"
def TJx8e188 : u_T := fun k => match k with
  | _ => ("", "", "", false)
def tyJx8e188 : Nat → FieldType := fun k => match k with
  | _ => .int
theorem nmJx8e188 : ∀ a, a < 0 → ∀ b, b < 0 → a ≠ b → (TJx8e188 a).2.1 ≠ (TJx8e188 b).2.1 := by decide +kernel
theorem tyJx8e188_ok : ∀ k, k < 0 → parseFieldDescriptor (TJx8e188 k).2.2.1 = some (tyJx8e188 k) := by decide +kernel
def RJx29ce0 : String := "java/lang/Enum"
def TJx29ce0 : u_T := fun k => match k with
  | _ => ("", "", "", false)
def tyJx29ce0 : Nat → FieldType := fun k => match k with
  | _ => .int
theorem nmJx29ce0 : ∀ a, a < 0 → ∀ b, b < 0 → a ≠ b → (TJx29ce0 a).2.1 ≠ (TJx29ce0 b).2.1 := by decide +kernel
theorem tyJx29ce0_ok : ∀ k, k < 0 → parseFieldDescriptor (TJx29ce0 k).2.2.1 = some (tyJx29ce0 k) := by decide +kernel
def RJ6 : String := "java/lang/Integer"
def TJ6 : u_T := fun k => match k with
  | _ => ("", "", "", false)
def tyJ6 : Nat → FieldType := fun k => match k with
  | _ => .int
theorem nmJ6 : ∀ a, a < 0 → ∀ b, b < 0 → a ≠ b → (TJ6 a).2.1 ≠ (TJ6 b).2.1 := by decide +kernel
theorem tyJ6_ok : ∀ k, k < 0 → parseFieldDescriptor (TJ6 k).2.2.1 = some (tyJ6 k) := by decide +kernel
abbrev cJ6_getChars_ba4f3 : ByteArray := prog_15_method_12_code
def yJ6_getChars_ba4f3 : MethodName := ⟨RJ6, "getChars", "(II[B)I"⟩
abbrev cJ6_stringSize_0f7a4 : ByteArray := prog_15_method_13_code
def yJ6_stringSize_0f7a4 : MethodName := ⟨RJ6, "stringSize", "(I)I"⟩
def RJ9 : String := "java/lang/Math"
def TJ9 : u_T := fun k => match k with
  | _ => ("", "", "", false)
def tyJ9 : Nat → FieldType := fun k => match k with
  | _ => .int
theorem nmJ9 : ∀ a, a < 0 → ∀ b, b < 0 → a ≠ b → (TJ9 a).2.1 ≠ (TJ9 b).2.1 := by decide +kernel
theorem tyJ9_ok : ∀ k, k < 0 → parseFieldDescriptor (TJ9 k).2.2.1 = some (tyJ9 k) := by decide +kernel
abbrev cJ9_floorMod_7cf53 : ByteArray := prog_16_method_50_code
def yJ9_floorMod_7cf53 : MethodName := ⟨RJ9, "floorMod", "(II)I"⟩
abbrev cJ9_max_7cf53 : ByteArray := prog_16_method_65_code
def yJ9_max_7cf53 : MethodName := ⟨RJ9, "max", "(II)I"⟩
abbrev cJ9_min_7cf53 : ByteArray := prog_16_method_69_code
def yJ9_min_7cf53 : MethodName := ⟨RJ9, "min", "(II)I"⟩
def RJ0 : String := "java/lang/String"
def TJ0 : u_T := fun k => match k with
  | 0 => ("java/lang/String", "value", "[B", true)
  | 1 => ("java/lang/String", "coder", "B", true)
  | 2 => ("java/lang/String", "hash", "I", false)
  | _ => ("java/lang/String", "hashIsZero", "Z", false)
def tyJ0 : Nat → FieldType := fun k => match k with
  | 0 => .array .byte
  | 1 => .byte
  | 2 => .int
  | _ => .boolean
theorem nmJ0 : ∀ a, a < 4 → ∀ b, b < 4 → a ≠ b → (TJ0 a).2.1 ≠ (TJ0 b).2.1 := by decide +kernel
theorem tyJ0_ok : ∀ k, k < 4 → parseFieldDescriptor (TJ0 k).2.2.1 = some (tyJ0 k) := by decide +kernel
abbrev cJ0_init_81219 : ByteArray := prog_18_method_53_code
def yJ0_init_81219 : MethodName := ⟨RJ0, "<init>", "(Ljava/lang/StringBuilder;)V"⟩
abbrev cJ0_length_8abf5 : ByteArray := prog_18_method_54_code
def yJ0_length_8abf5 : MethodName := ⟨RJ0, "length", "()I"⟩
abbrev cJ0_isEmpty_aae02 : ByteArray := prog_18_method_55_code
def yJ0_isEmpty_aae02 : MethodName := ⟨RJ0, "isEmpty", "()Z"⟩
abbrev cJ0_getBytes_840e7 : ByteArray := prog_18_method_147_code
def yJ0_getBytes_840e7 : MethodName := ⟨RJ0, "getBytes", "([BIB)V"⟩
abbrev cJ0_init_db425 : ByteArray := prog_18_method_150_code
def yJ0_init_db425 : MethodName := ⟨RJ0, "<init>", "(Ljava/lang/AbstractStringBuilder;Ljava/lang/Void;)V"⟩
abbrev cJ0_coder_7d493 : ByteArray := prog_18_method_152_code
def yJ0_coder_7d493 : MethodName := ⟨RJ0, "coder", "()B"⟩
abbrev cJ0_checkIndex_df160 : ByteArray := prog_18_method_155_code
def yJ0_checkIndex_df160 : MethodName := ⟨RJ0, "checkIndex", "(II)V"⟩
abbrev cJ0_checkBoundsOffCount_cabcc : ByteArray := prog_18_method_157_code
def yJ0_checkBoundsOffCount_cabcc : MethodName := ⟨RJ0, "checkBoundsOffCount", "(III)I"⟩
abbrev cJ0_checkBoundsBeginEnd_23922 : ByteArray := prog_18_method_158_code
def yJ0_checkBoundsBeginEnd_23922 : MethodName := ⟨RJ0, "checkBoundsBeginEnd", "(III)V"⟩
def RJ4 : String := "java/lang/StringBuilder"
def TJ4 : u_T := fun k => match k with
  | 0 => ("java/lang/AbstractStringBuilder", "value", "[B", false)
  | 1 => ("java/lang/AbstractStringBuilder", "coder", "B", false)
  | 2 => ("java/lang/AbstractStringBuilder", "maybeLatin1", "Z", false)
  | _ => ("java/lang/AbstractStringBuilder", "count", "I", false)
def tyJ4 : Nat → FieldType := fun k => match k with
  | 0 => .array .byte
  | 1 => .byte
  | 2 => .boolean
  | _ => .int
theorem nmJ4 : ∀ a, a < 4 → ∀ b, b < 4 → a ≠ b → (TJ4 a).2.1 ≠ (TJ4 b).2.1 := by decide +kernel
theorem tyJ4_ok : ∀ k, k < 4 → parseFieldDescriptor (TJ4 k).2.2.1 = some (tyJ4 k) := by decide +kernel
abbrev cJ4_init_da8c8 : ByteArray := prog_19_method_1_code
def yJ4_init_da8c8 : MethodName := ⟨RJ4, "<init>", "()V"⟩
abbrev cJ4_append_15ec4 : ByteArray := prog_19_method_7_code
def yJ4_append_15ec4 : MethodName := ⟨RJ4, "append", "(Ljava/lang/String;)Ljava/lang/StringBuilder;"⟩
abbrev cJ4_append_cf468 : ByteArray := prog_19_method_14_code
def yJ4_append_cf468 : MethodName := ⟨RJ4, "append", "(C)Ljava/lang/StringBuilder;"⟩
abbrev cJ4_append_bf812 : ByteArray := prog_19_method_15_code
def yJ4_append_bf812 : MethodName := ⟨RJ4, "append", "(I)Ljava/lang/StringBuilder;"⟩
abbrev cJ4_toString_0e30d : ByteArray := prog_19_method_42_code
def yJ4_toString_0e30d : MethodName := ⟨RJ4, "toString", "()Ljava/lang/String;"⟩
abbrev cJ4_length_8abf5 : ByteArray := prog_19_method_93_code
def yJ4_length_8abf5 : MethodName := ⟨RJ4, "length", "()I"⟩
def RJ1 : String := "java/lang/StringLatin1"
def TJ1 : u_T := fun k => match k with
  | _ => ("", "", "", false)
def tyJ1 : Nat → FieldType := fun k => match k with
  | _ => .int
theorem nmJ1 : ∀ a, a < 0 → ∀ b, b < 0 → a ≠ b → (TJ1 a).2.1 ≠ (TJ1 b).2.1 := by decide +kernel
theorem tyJ1_ok : ∀ k, k < 0 → parseFieldDescriptor (TJ1 k).2.2.1 = some (tyJ1 k) := by decide +kernel
abbrev cJ1_canEncode_fc78d : ByteArray := prog_20_method_3_code
def yJ1_canEncode_fc78d : MethodName := ⟨RJ1, "canEncode", "(C)Z"⟩
abbrev cJ1_inflate_0e8fd : ByteArray := prog_20_method_50_code
def yJ1_inflate_0e8fd : MethodName := ⟨RJ1, "inflate", "([BI[BII)V"⟩
def RJ2 : String := "java/lang/StringUTF16"
def TJ2 : u_T := fun k => match k with
  | _ => ("", "", "", false)
def tyJ2 : Nat → FieldType := fun k => match k with
  | _ => .int
theorem nmJ2 : ∀ a, a < 0 → ∀ b, b < 0 → a ≠ b → (TJ2 a).2.1 ≠ (TJ2 b).2.1 := by decide +kernel
theorem tyJ2_ok : ∀ k, k < 0 → parseFieldDescriptor (TJ2 k).2.2.1 = some (tyJ2 k) := by decide +kernel
abbrev cJ2_newBytesFor_77867 : ByteArray := prog_21_method_2_code
def yJ2_newBytesFor_77867 : MethodName := ⟨RJ2, "newBytesFor", "(I)[B"⟩
abbrev cJ2_newBytesLength_0f7a4 : ByteArray := prog_21_method_3_code
def yJ2_newBytesLength_0f7a4 : MethodName := ⟨RJ2, "newBytesLength", "(I)I"⟩
abbrev cJ2_putChar_b72d1 : ByteArray := prog_21_method_4_code
def yJ2_putChar_b72d1 : MethodName := ⟨RJ2, "putChar", "([BII)V"⟩
abbrev cJ2_getChar_3b067 : ByteArray := prog_21_method_5_code
def yJ2_getChar_3b067 : MethodName := ⟨RJ2, "getChar", "([BI)C"⟩
abbrev cJ2_length_9d52b : ByteArray := prog_21_method_6_code
def yJ2_length_9d52b : MethodName := ⟨RJ2, "length", "([B)I"⟩
abbrev cJ2_coderFromArrayLen_85cad : ByteArray := prog_21_method_15_code
def yJ2_coderFromArrayLen_85cad : MethodName := ⟨RJ2, "coderFromArrayLen", "([BI)B"⟩
abbrev cJ2_compress_39247 : ByteArray := prog_21_method_17_code
def yJ2_compress_39247 : MethodName := ⟨RJ2, "compress", "([BII)[B"⟩
abbrev cJ2_compress_5af95 : ByteArray := prog_21_method_22_code
def yJ2_compress_5af95 : MethodName := ⟨RJ2, "compress", "([BI[BII)I"⟩
abbrev cJ2_putCharSB_b72d1 : ByteArray := prog_21_method_71_code
def yJ2_putCharSB_b72d1 : MethodName := ⟨RJ2, "putCharSB", "([BII)V"⟩
abbrev cJ2_getChars_46870 : ByteArray := prog_21_method_77_code
def yJ2_getChars_46870 : MethodName := ⟨RJ2, "getChars", "(III[B)I"⟩
abbrev cJ2_putCharsAt_cd4e5 : ByteArray := prog_21_method_81_code
def yJ2_putCharsAt_cd4e5 : MethodName := ⟨RJ2, "putCharsAt", "([BICCCC)I"⟩
abbrev cJ2_inflate_0e8fd : ByteArray := prog_21_method_86_code
def yJ2_inflate_0e8fd : MethodName := ⟨RJ2, "inflate", "([BI[BII)V"⟩
abbrev cJ2_getChars_ba4f3 : ByteArray := prog_21_method_89_code
def yJ2_getChars_ba4f3 : MethodName := ⟨RJ2, "getChars", "(II[B)I"⟩
abbrev cJ2_checkIndex_2214a : ByteArray := prog_21_method_91_code
def yJ2_checkIndex_2214a : MethodName := ⟨RJ2, "checkIndex", "(I[B)V"⟩
abbrev cJ2_checkBoundsBeginEnd_d044e : ByteArray := prog_21_method_93_code
def yJ2_checkBoundsBeginEnd_d044e : MethodName := ⟨RJ2, "checkBoundsBeginEnd", "(II[B)V"⟩
abbrev cJ2_checkBoundsOffCount_d044e : ByteArray := prog_21_method_94_code
def yJ2_checkBoundsOffCount_d044e : MethodName := ⟨RJ2, "checkBoundsOffCount", "(II[B)V"⟩
def RJ10 : String := "java/lang/System"
def TJ10 : u_T := fun k => match k with
  | _ => ("", "", "", false)
def tyJ10 : Nat → FieldType := fun k => match k with
  | _ => .int
theorem nmJ10 : ∀ a, a < 0 → ∀ b, b < 0 → a ≠ b → (TJ10 a).2.1 ≠ (TJ10 b).2.1 := by decide +kernel
theorem tyJ10_ok : ∀ k, k < 0 → parseFieldDescriptor (TJ10 k).2.2.1 = some (tyJ10 k) := by decide +kernel
def RJ7 : String := "java/util/Arrays"
def TJ7 : u_T := fun k => match k with
  | _ => ("", "", "", false)
def tyJ7 : Nat → FieldType := fun k => match k with
  | _ => .int
theorem nmJ7 : ∀ a, a < 0 → ∀ b, b < 0 → a ≠ b → (TJ7 a).2.1 ≠ (TJ7 b).2.1 := by decide +kernel
theorem tyJ7_ok : ∀ k, k < 0 → parseFieldDescriptor (TJ7 k).2.2.1 = some (tyJ7 k) := by decide +kernel
abbrev cJ7_copyOf_9075b : ByteArray := prog_24_method_121_code
def yJ7_copyOf_9075b : MethodName := ⟨RJ7, "copyOf", "([BI)[B"⟩
abbrev cJ7_checkLength_df160 : ByteArray := prog_24_method_131_code
def yJ7_checkLength_df160 : MethodName := ⟨RJ7, "checkLength", "(II)V"⟩
abbrev cJ7_copyOfRange_39247 : ByteArray := prog_24_method_132_code
def yJ7_copyOfRange_39247 : MethodName := ⟨RJ7, "copyOfRange", "([BII)[B"⟩
abbrev cJ7_copyOfRangeByte_39247 : ByteArray := prog_24_method_133_code
def yJ7_copyOfRangeByte_39247 : MethodName := ⟨RJ7, "copyOfRangeByte", "([BII)[B"⟩
def RJ8 : String := "jdk/internal/util/ArraysSupport"
def TJ8 : u_T := fun k => match k with
  | _ => ("", "", "", false)
def tyJ8 : Nat → FieldType := fun k => match k with
  | _ => .int
theorem nmJ8 : ∀ a, a < 0 → ∀ b, b < 0 → a ≠ b → (TJ8 a).2.1 ≠ (TJ8 b).2.1 := by decide +kernel
theorem tyJ8_ok : ∀ k, k < 0 → parseFieldDescriptor (TJ8 k).2.2.1 = some (tyJ8 k) := by decide +kernel
abbrev cJ8_newLength_cabcc : ByteArray := prog_25_method_27_code
def yJ8_newLength_cabcc : MethodName := ⟨RJ8, "newLength", "(III)I"⟩
abbrev cJ8_hugeLength_7cf53 : ByteArray := prog_25_method_28_code
def yJ8_hugeLength_7cf53 : MethodName := ⟨RJ8, "hugeLength", "(II)I"⟩
def RJ3 : String := "jdk/internal/util/Preconditions"
def TJ3 : u_T := fun k => match k with
  | _ => ("", "", "", false)
def tyJ3 : Nat → FieldType := fun k => match k with
  | _ => .int
theorem nmJ3 : ∀ a, a < 0 → ∀ b, b < 0 → a ≠ b → (TJ3 a).2.1 ≠ (TJ3 b).2.1 := by decide +kernel
theorem tyJ3_ok : ∀ k, k < 0 → parseFieldDescriptor (TJ3 k).2.2.1 = some (tyJ3 k) := by decide +kernel
abbrev cJ3_checkIndex_8e157 : ByteArray := prog_26_method_11_code
def yJ3_checkIndex_8e157 : MethodName := ⟨RJ3, "checkIndex", "(IILjava/util/function/BiFunction;)I"⟩
abbrev cJ3_checkFromToIndex_8c36e : ByteArray := prog_26_method_12_code
def yJ3_checkFromToIndex_8c36e : MethodName := ⟨RJ3, "checkFromToIndex", "(IIILjava/util/function/BiFunction;)I"⟩
abbrev cJ3_checkFromIndexSize_8c36e : ByteArray := prog_26_method_13_code
def yJ3_checkFromIndexSize_8c36e : MethodName := ⟨RJ3, "checkFromIndexSize", "(IIILjava/util/function/BiFunction;)I"⟩
def RL : String := "OverwalksLaw"
abbrev cL_put : ByteArray := method_2_code
def yL_put : MethodName := ⟨RL, "put", "(LOverwalks;IILOverwalksLaw$Out;)I"⟩
abbrev cL_putAll : ByteArray := method_3_code
def yL_putAll : MethodName := ⟨RL, "putAll", "(LOverwalks;IIIIILOverwalksLaw$Out;)I"⟩
abbrev cL_take : ByteArray := method_4_code
def yL_take : MethodName := ⟨RL, "take", "(LOverwalks;IILOverwalksLaw$Out;)I"⟩
abbrev cL_clear : ByteArray := method_5_code
def yL_clear : MethodName := ⟨RL, "clear", "(LOverwalks;ILOverwalksLaw$Out;)I"⟩
abbrev cL_pair : ByteArray := method_6_code
def yL_pair : MethodName := ⟨RL, "pair", "(LOverwalks;IILOverwalksLaw$Out;)I"⟩
abbrev cL_pour : ByteArray := method_7_code
def yL_pour : MethodName := ⟨RL, "pour", "(LOverwalks;IILOverwalksLaw$Out;)I"⟩
abbrev cL_change : ByteArray := method_8_code
def yL_change : MethodName := ⟨RL, "change", "(LOverwalks;IIILOverwalksLaw$Out;)I"⟩
abbrev cL_insert : ByteArray := method_9_code
def yL_insert : MethodName := ⟨RL, "insert", "(LOverwalks;IIILOverwalksLaw$Out;)I"⟩
abbrev cL_remove : ByteArray := method_10_code
def yL_remove : MethodName := ⟨RL, "remove", "(LOverwalks;IILOverwalksLaw$Out;)I"⟩
abbrev cL_turn : ByteArray := method_11_code
def yL_turn : MethodName := ⟨RL, "turn", "(LOverwalks;ILOverwalksLaw$Out;)I"⟩
abbrev cL_rotate : ByteArray := method_12_code
def yL_rotate : MethodName := ⟨RL, "rotate", "(LOverwalks;IILOverwalksLaw$Out;)I"⟩
abbrev cL_swap : ByteArray := method_13_code
def yL_swap : MethodName := ⟨RL, "swap", "(LOverwalks;IIILOverwalksLaw$Out;)I"⟩
abbrev cL_fill : ByteArray := method_14_code
def yL_fill : MethodName := ⟨RL, "fill", "(LOverwalks;IILOverwalksLaw$Out;)I"⟩
abbrev cL_replace : ByteArray := method_15_code
def yL_replace : MethodName := ⟨RL, "replace", "(LOverwalks;IIILOverwalksLaw$Out;)I"⟩
abbrev cL_copies : ByteArray := method_16_code
def yL_copies : MethodName := ⟨RL, "copies", "(LOverwalks;IIILOverwalksLaw$Out;)I"⟩
abbrev cL_walk : ByteArray := method_17_code
def yL_walk : MethodName := ⟨RL, "walk", "(LOverwalks;IIILOverwalksLaw$Out;)I"⟩
abbrev cL_next : ByteArray := method_18_code
def yL_next : MethodName := ⟨RL, "next", "(LOverwalks;ILOverwalksLaw$Out;)I"⟩
abbrev cL_more : ByteArray := method_19_code
def yL_more : MethodName := ⟨RL, "more", "(LOverwalks;ILOverwalksLaw$Out;)I"⟩
abbrev cL_takeOut : ByteArray := method_20_code
def yL_takeOut : MethodName := ⟨RL, "takeOut", "(LOverwalks;ILOverwalksLaw$Out;)I"⟩
abbrev cL_rest : ByteArray := method_21_code
def yL_rest : MethodName := ⟨RL, "rest", "(LOverwalks;ILOverwalksLaw$Out;)I"⟩
abbrev cL_keepRest : ByteArray := method_22_code
def yL_keepRest : MethodName := ⟨RL, "keepRest", "(LOverwalks;IILOverwalksLaw$Out;)I"⟩
abbrev cL_keep : ByteArray := method_23_code
def yL_keep : MethodName := ⟨RL, "keep", "(LOverwalks;IILOverwalksLaw$Out;)I"⟩
abbrev cL_drop : ByteArray := method_24_code
def yL_drop : MethodName := ⟨RL, "drop", "(LOverwalks;ILOverwalksLaw$Out;)I"⟩
abbrev cL_skip : ByteArray := method_25_code
def yL_skip : MethodName := ⟨RL, "skip", "(LOverwalks;IILOverwalksLaw$Out;)I"⟩
abbrev cL_pourRest : ByteArray := method_26_code
def yL_pourRest : MethodName := ⟨RL, "pourRest", "(LOverwalks;IILOverwalksLaw$Out;)I"⟩
abbrev cL_zip : ByteArray := method_27_code
def yL_zip : MethodName := ⟨RL, "zip", "(LOverwalks;IILOverwalksLaw$Out;)I"⟩
abbrev cL_text : ByteArray := method_28_code
def yL_text : MethodName := ⟨RL, "text", "(LOverwalks;ILOverwalksLaw$Out;)I"⟩
abbrev cL_list : ByteArray := method_29_code
def yL_list : MethodName := ⟨RL, "list", "(LOverwalks;ILOverwalksLaw$Out;)I"⟩
abbrev cL_size : ByteArray := method_30_code
def yL_size : MethodName := ⟨RL, "size", "(LOverwalks;ILOverwalksLaw$Out;)I"⟩
abbrev cL_isEmpty : ByteArray := method_31_code
def yL_isEmpty : MethodName := ⟨RL, "isEmpty", "(LOverwalks;ILOverwalksLaw$Out;)I"⟩
abbrev cL_has : ByteArray := method_32_code
def yL_has : MethodName := ⟨RL, "has", "(LOverwalks;IILOverwalksLaw$Out;)I"⟩
abbrev cL_often : ByteArray := method_33_code
def yL_often : MethodName := ⟨RL, "often", "(LOverwalks;IILOverwalksLaw$Out;)I"⟩
abbrev cL_placeOf : ByteArray := method_34_code
def yL_placeOf : MethodName := ⟨RL, "placeOf", "(LOverwalks;IIZLOverwalksLaw$Out;)I"⟩
abbrev cL_disjoint : ByteArray := method_35_code
def yL_disjoint : MethodName := ⟨RL, "disjoint", "(LOverwalks;IILOverwalksLaw$Out;)I"⟩
abbrev cL_end : ByteArray := method_36_code
def yL_end : MethodName := ⟨RL, "end", "(LOverwalks;IZLOverwalksLaw$Out;)I"⟩
abbrev cL_code : ByteArray := method_37_code
def yL_code : MethodName := ⟨RL, "code", "(LOverwalks;ILOverwalksLaw$Out;)I"⟩
abbrev cL_areAlike : ByteArray := method_38_code
def yL_areAlike : MethodName := ⟨RL, "areAlike", "(LOverwalks;IILOverwalksLaw$Out;)I"⟩
abbrev cL_first : ByteArray := method_39_code
def yL_first : MethodName := ⟨RL, "first", "(LOverwalks;IZLOverwalksLaw$Out;)I"⟩
abbrev cL_valueOf : ByteArray := method_40_code
def yL_valueOf : MethodName := ⟨RL, "valueOf", "(LOverwalks;ILOverwalksLaw$Out;)I"⟩
abbrev cL_ofWalk : ByteArray := method_41_code
def yL_ofWalk : MethodName := ⟨RL, "ofWalk", "(LOverwalks;IILOverwalksLaw$Out;)I"⟩
abbrev cL_house : ByteArray := method_42_code
def yL_house : MethodName := ⟨RL, "house", "(LOverwalks;ILOverwalksLaw$Out;)I"⟩
abbrev cL_law : ByteArray := code
def yL_law : MethodName := ⟨RL, "law", "([I)Z"⟩
abbrev vwCl : List vw_C := [(RJ0, TJ0, 4), (RJ4, TJ4, 4), (RX1, TX1, 5), (RX2, TX2, 9), (RX3, TX3, 7), (RX4, TX4, 2), (RX5, TX5, 14)]
end
section
/-! A logic over abstract heaps: SW (a place in a method), SM (a method); addresses are numbers 0, 1, 2 .. of our own, those below nC are constants that nobody writes -/
abbrev MI : Type := MethodName × ByteArray × Nat × Option FieldType × List (Nat × Nat × Nat × Nat)
abbrev AH : Type := Nat → va_E
abbrev ARes : Type := Option Value ⊕ String
/-- D; the classes of arrays by their tag; the constants' addresses; what they are -/
abbrev GD : Type := va_G × (Nat → ClassId) × (Nat → Nat) × (Nat → va_E)
abbrev nC : Nat := 100
def em (ad : Nat → Nat) (v : Value) : Value := match v with
  | .ref i => .ref (ad i)
  | w => w
def emE (cA : Nat → ClassId) (ad : Nat → Nat) (e : va_E) : va_E := match e with
  | .inl (t, n, .inr (.inr (.inr (.inr g)))) => .inl (cA t, n, .inr (.inr (.inr (.inr (fun j => (g j).map ad)))))
  | .inl (t, x) => .inl (cA t, x)
  | .inr (ci, fs) => .inr (ci, fs.map (em ad))
def clV (n : Nat) (v : Value) : Prop := ∀ i, v = .ref i → i < n
def clE (n : Nat) (e : va_E) : Prop := match e with
  | .inl (_, _, .inr (.inr (.inr (.inr g)))) => ∀ j i, g j = some i → i < n
  | .inl _ => True
  | .inr (_, fs) => ∀ v ∈ fs, clV n v
def up {α : Type} (h : Nat → α) (i : Nat) (e : α) : Nat → α := fun j => if j = i then e else h j
theorem up_s {α : Type} {h : Nat → α} {i : Nat} {e : α} : up h i e i = e := if_pos rfl
theorem up_n {α : Type} {h : Nat → α} {i j : Nat} {e : α} (q : j ≠ i) : up h i e j = h j := if_neg q
def wsH (G : GD) (ad : Nat → Nat) (h : AH) (n : Nat) : va_W := (List.range (n - nC)).map (fun j => (ad (nC + j), emE G.2.1 ad (h (nC + j))))
theorem wsH_len {G : GD} {ad : Nat → Nat} {h : AH} {n : Nat} : (wsH G ad h n).length = n - nC := by simp [wsH]
theorem wsH_get {G : GD} {ad : Nat → Nat} {h : AH} {n i : Nat} (h1 : nC ≤ i) (h2 : i < n) : (wsH G ad h n)[i - nC]? = some (ad i, emE G.2.1 ad (h i)) := by
  have h3 : i - nC < n - nC := by omega
  have h4 : nC + (i - nC) = i := by omega
  simp [wsH, h3, h4]
theorem wsH_set {G : GD} {ad : Nat → Nat} {h : AH} {n i : Nat} {e : va_E} (h1 : nC ≤ i) (h2 : i < n) : (wsH G ad h n).set (i - nC) (ad i, emE G.2.1 ad e) = wsH G ad (up h i e) n := by
  apply List.ext_getElem?
  intro j
  by_cases hj : j < n - nC
  · by_cases e1 : i - nC = j
    · have h4 : nC + j = i := by omega
      rw [← e1, List.getElem?_set_self (by rw [wsH_len]; omega), wsH_get h1 h2, up_s]
    · rw [List.getElem?_set_ne e1]
      have h4 : nC + j ≠ i := by omega
      have a := wsH_get (G := G) (ad := ad) (h := h) (n := n) (i := nC + j) (by omega) (by omega)
      have b := wsH_get (G := G) (ad := ad) (h := up h i e) (n := n) (i := nC + j) (by omega) (by omega)
      rw [show nC + j - nC = j by omega] at a b
      rw [a, b, up_n h4]
  · rw [List.getElem?_eq_none (by rw [List.length_set, wsH_len]; omega), List.getElem?_eq_none (by rw [wsH_len]; omega)]
theorem em_eq {ad ad' : Nat → Nat} {n : Nat} {v : Value} (hv : clV n v) (he : ∀ i, i < n → ad' i = ad i) : em ad' v = em ad v := by
  cases v <;> first | rfl | (rename_i i; exact congrArg Value.ref (he i (hv i rfl)))
theorem emE_eq {cA : Nat → ClassId} {ad ad' : Nat → Nat} {n : Nat} {e : va_E} (hv : clE n e) (he : ∀ i, i < n → ad' i = ad i) : emE cA ad' e = emE cA ad e := by
  match e, hv with
  | .inl (t, m, .inl f), _ => rfl
  | .inl (t, m, .inr (.inl f)), _ => rfl
  | .inl (t, m, .inr (.inr (.inl f))), _ => rfl
  | .inl (t, m, .inr (.inr (.inr (.inl f)))), _ => rfl
  | .inl (t, m, .inr (.inr (.inr (.inr g)))), hv =>
    show (Sum.inl _ : va_E) = Sum.inl _
    have : (fun j => (g j).map ad') = (fun j => (g j).map ad) := by
      funext j
      cases hg : g j with
      | none => rfl
      | some i => exact congrArg some (he i (hv j i hg))
    rw [this]
  | .inr (ci, fs), hv =>
    show (Sum.inr (ci, fs.map (em ad')) : va_E) = Sum.inr (ci, fs.map (em ad))
    have : fs.map (em ad') = fs.map (em ad) := List.map_congr_left (fun v hvm => em_eq (hv v hvm) he)
    rw [this]
theorem clV_mono {n n' : Nat} {v : Value} (h : clV n v) (hn : n ≤ n') : clV n' v := fun i e => Nat.lt_of_lt_of_le (h i e) hn
theorem clE_mono {n n' : Nat} {e : va_E} (h : clE n e) (hn : n ≤ n') : clE n' e := by
  match e, h with
  | .inl (t, m, .inl f), _ => trivial
  | .inl (t, m, .inr (.inl f)), _ => trivial
  | .inl (t, m, .inr (.inr (.inl f))), _ => trivial
  | .inl (t, m, .inr (.inr (.inr (.inl f)))), _ => trivial
  | .inl (t, m, .inr (.inr (.inr (.inr g)))), hv => exact fun j i hg => Nat.lt_of_lt_of_le (hv j i hg) hn
  | .inr (ci, fs), hv => exact fun v hvm => clV_mono (hv v hvm) hn
/-- one thing more, at a fresh real address q -/
theorem wsH_push {G : GD} {ad : Nat → Nat} {h : AH} {n q : Nat} {e : va_E} (hn : nC ≤ n) (hcl : ∀ i, nC ≤ i → i < n → clE n (h i)) (he : clE n e) :
    wsH G ad h n ++ [(q, emE G.2.1 ad e)] = wsH G (up ad n q) (up h n e) (n + 1) := by
  have e0 : ∀ i, i < n → up ad n q i = ad i := fun i hi => up_n (by omega)
  apply List.ext_getElem?
  intro j
  by_cases hj : j < n - nC
  · rw [List.getElem?_append_left (by rw [wsH_len]; exact hj)]
    have a := wsH_get (G := G) (ad := ad) (h := h) (n := n) (i := nC + j) (by omega) (by omega)
    have b := wsH_get (G := G) (ad := up ad n q) (h := up h n e) (n := n + 1) (i := nC + j) (by omega) (by omega)
    rw [show nC + j - nC = j by omega] at a b
    rw [a, b, up_n (h := h) (by omega), e0 _ (by omega), emE_eq (hcl _ (by omega) (by omega)) e0]
  · by_cases e1 : j = n - nC
    · subst e1
      rw [List.getElem?_append_right (by rw [wsH_len]; omega), wsH_len, Nat.sub_self]
      have b := wsH_get (G := G) (ad := up ad n q) (h := up h n e) (n := n + 1) (i := n) hn (by omega)
      rw [b, up_s, up_s, emE_eq he e0]
      rfl
    · rw [List.getElem?_eq_none (by rw [List.length_append, wsH_len]; simp; omega), List.getElem?_eq_none (by rw [wsH_len]; omega)]
/-! what is known of the tables -/
def GT : List Cond := lw_tbl.filter goodWord
def tysOf (cA : Nat → ClassId) : List (ClassId × FieldType) := [(cA 0, .int), (cA 1, .boolean), (cA 2, .byte), (cA 3, .object RX1), (cA 4, .object RX2), (cA 5, .array .int)]
/-- fields of the classes: of vwCl by its places; 7: the enum -/
def FT (ci : Nat) : u_T := match ci with
  | 0 => TJ0
  | 1 => TJ4
  | 2 => TX1
  | 3 => TX2
  | 4 => TX3
  | 5 => TX4
  | 6 => TX5
  | _ => fun k => match k with
    | 0 => ("Overwalks$Kind", "hasPlaces", "Z", true)
    | 1 => ("Overwalks$Kind", "takesNothings", "Z", true)
    | _ => ("Overwalks$Kind", "hasEachOnce", "Z", true)
def CN (ci : Nat) : String := match ci with
  | 0 => RJ0
  | 1 => RJ4
  | 2 => RX1
  | 3 => RX2
  | 4 => RX3
  | 5 => RX4
  | 6 => RX5
  | _ => RX0
def FN (ci : Nat) : Nat := match ci with
  | 0 => 4
  | 1 => 4
  | 2 => 5
  | 3 => 9
  | 4 => 7
  | 5 => 2
  | 6 => 14
  | _ => 3
theorem vwCl_at {ci : Nat} (h : ci < 7) : vwCl[ci]? = some (CN ci, FT ci, FN ci) := by
  match ci, h with
  | 0, _ => rfl
  | 1, _ => rfl
  | 2, _ => rfl
  | 3, _ => rfl
  | 4, _ => rfl
  | 5, _ => rfl
  | 6, _ => rfl
theorem vwCl_lt {ci : Nat} {r : vw_C} (h : vwCl[ci]? = some r) : ci < 7 := (List.getElem?_eq_some_iff.mp h).1
def aTy (t : Nat) : FieldType := match t with
  | 0 => .int
  | 1 => .boolean
  | 2 => .byte
  | 3 => .object RX1
  | 4 => .object RX2
  | _ => .array .int
/-- the static fields that are read, and what they hold (constants by their numbers) -/
def ST : List (String × String × String × Value) := [("Overwalks$Kind", "ROW", "LOverwalks$Kind;", .ref 1), ("Overwalks$Kind", "RISING", "LOverwalks$Kind;", .ref 2), ("Overwalks$Kind", "KEPT", "LOverwalks$Kind;", .ref 3), ("Overwalks$Kind", "QUEUE", "LOverwalks$Kind;", .ref 4), ("Overwalks$Kind", "TABLE", "LOverwalks$Kind;", .ref 5),
  ("java/lang/Integer", "DigitTens", "[B", .ref 6), ("java/lang/Integer", "DigitOnes", "[B", .ref 7), ("java/lang/String", "COMPACT_STRINGS", "Z", .int 1)]
/-- the constants and statics in the heap -/
def CFc (G : GD) (A : Nat → Prop) (U : State) (H : Heap) : Prop :=
  (∀ i ci fs, i < nC → G.2.2.2 i = .inr (ci, fs) → va_O (CN ci) (G.2.2.1 i) A U H ∧ ∀ (k : Nat) (v : Value), fs[k]? = some v → va_OF (FT ci k).1 (FT ci k).2.1 (FT ci k).2.2.1 (em G.2.2.1 v) (G.2.2.1 i) A U H) ∧
  (∀ i t n f, i < nC → G.2.2.2 i = .inl (t, n, .inl f) → t < 3 → va_T (aTy t) (G.2.2.1 i) n (fun j => .int (f j)) A U H) ∧
  (∀ q ∈ ST, va_Z q.1 q.2.1 q.2.2.1 (em G.2.2.1 q.2.2.2) A U H) ∧
  vx_Zq Bundle.tN "UNASSIGNED_STACK" Bundle.steD A U H ∧ vx_Zq Bundle.tN "SUPPRESSED_SENTINEL" Bundle.listD A U H ∧
  (∀ i j, 1 ≤ i → i ≤ 5 → 1 ≤ j → j ≤ 5 → G.2.2.1 i = G.2.2.1 j → i = j)
theorem CFc.moved {G : GD} {A : Nat → Prop} {u U : State} {H : Heap} (hvm : u.vm.Alike U.vm) (h : CFc G A u H) : CFc G A U H :=
  ⟨fun i ci fs hi hf => ⟨va_O.moved hvm (h.1 i ci fs hi hf).1, fun k v hk => va_OF.moved hvm ((h.1 i ci fs hi hf).2 k v hk)⟩, fun i t n f hi hf ht => va_T.moved hvm (h.2.1 i t n f hi hf ht), fun q hq => va_Z.moved hvm (h.2.2.1 q hq), vx_Zq.moved hvm h.2.2.2.1, vx_Zq.moved hvm h.2.2.2.2.1, h.2.2.2.2.2⟩
theorem CFc.kept {G : GD} {A : Nat → Prop} {U : State} {H H1 : Heap} (h : CFc G A U H) (hq : ∀ a : Nat, a < H.size → ¬ A a → H1[a]? = H[a]?) : CFc G A U H1 :=
  ⟨fun i ci fs hi hf => ⟨(h.1 i ci fs hi hf).1.kept hq, fun k v hk => ((h.1 i ci fs hi hf).2 k v hk).kept hq⟩, fun i t n f hi hf ht => (h.2.1 i t n f hi hf ht).kept hq, fun q hq1 => (h.2.2.1 q hq1).kept hq, h.2.2.2.1.kept hq, h.2.2.2.2.1.kept hq, h.2.2.2.2.2⟩
theorem CFc.narrow {G : GD} {A B : Nat → Prop} {U : State} {H : Heap} (h : CFc G A U H) (hAB : ∀ q, B q → A q) : CFc G B U H :=
  ⟨fun i ci fs hi hf => ⟨(h.1 i ci fs hi hf).1.narrow hAB, fun k v hk => ((h.1 i ci fs hi hf).2 k v hk).narrow hAB⟩, fun i t n f hi hf ht => (h.2.1 i t n f hi hf ht).narrow hAB, fun q hq1 => (h.2.2.1 q hq1).narrow hAB, h.2.2.2.1.narrow hAB, h.2.2.2.2.1.narrow hAB, h.2.2.2.2.2⟩
end
section
/-! the judgements -/
/-- words that hold of the tables for good but are no 'good words': nest links, castable, declares .. -/
def NW : List Cond := lw_tbl.filter (fun w => match w with
  | .fieldLinkNest .. => true
  | .methodLinkNest .. => true
  | .castable .. => true
  | .declares _ => true
  | _ => false)
/-- String constants: class, entry, text, number -/
abbrev SRT : Type := List (String × Nat × String × Nat)
def NWs (U : State) : Prop := ∀ w ∈ NW, va_Nw w U
theorem NWs.warm {s U : State} (hW : s.WarmedH U.vm) (h : NWs s) : NWs U := by
  intro w hw
  have h1 := h w hw
  have h2 := (List.mem_filter.mp hw).2
  cases w <;> first | (simp at h2; done) | exact va_Nw.warmF hW h1 | exact va_Nw.warmM hW h1 | exact va_Nw.warmC hW h1 | exact va_Nw.warmD hW h1
/-- the exceptions that are thrown: none is another one -/
def XP : List (String × String) := [("java/lang/IndexOutOfBoundsException", "java/lang/IllegalArgumentException"), ("java/lang/IndexOutOfBoundsException", "java/lang/IllegalStateException"), ("java/lang/IllegalArgumentException", "java/lang/IndexOutOfBoundsException"), ("java/lang/IllegalArgumentException", "java/lang/IllegalStateException"), ("java/lang/IllegalStateException", "java/lang/IndexOutOfBoundsException"), ("java/lang/IllegalStateException", "java/lang/IllegalArgumentException")]
/-- array classes over classes of ours; the exceptions -/
def AOs (U : State) : Prop := va_AO RX1 U ∧ va_AO RX2 U ∧ va_AOA .int U ∧ ∀ q ∈ XP, va_Nc q.1 q.2 U
theorem AOs.moved {u U : State} (hvm : u.vm.Alike U.vm) (h : AOs u) : AOs U := ⟨va_AO.moved hvm h.1, va_AO.moved hvm h.2.1, arrayOver_alikeB hvm h.2.2.1, fun q hq => va_Nc.moved hvm (h.2.2.2 q hq)⟩
def RM (d : Nat) (R : Room) : Prop := 2 * d + 10 ≤ R.frames ∧ 100 * d + 200 ≤ R.locals
def rmOf (d bc bs : Nat) : Room := { frames := 2 * d + 10, cells := bc, slots := bs, locals := 100 * d + 200 }
def cwM (M : MI) : Cond := if M.2.2.2.2 = [] then Cond.code M.1 M.2.1 M.2.2.1 M.2.2.2.1 else Cond.codeWith M.1 M.2.1 M.2.2.1 M.2.2.2.1 M.2.2.2.2
def wsM (M : MI) : List Cond := cwM M :: GT
/-- what stands still in a frame of method M -/
def CX (SR : SRT) (G : GD) (M : MI) (p : Program) (l : Launch) (s : State) (m : MethodId) (args : Array Value) (meth : Method) (c : Code) (A : Nat → Prop) : Prop :=
  p.tables.exec = Jvm.exec ∧ c.code = M.2.1 ∧ meth.sig.returnType = M.2.2.2.1 ∧ c.maxLocals = M.2.2.1 ∧ s.vm.findClass M.1.cls = some m.cls ∧ (∀ w ∈ GT, w.before args s = true) ∧ meth.locks = false ∧ c.exceptionTable.toList = tableOf M.2.2.2.2 ∧ l.stackTraces = false ∧ (M.1.name = "<init>" → meth.name = "<init>") ∧
  va_K G.1 vwCl (tysOf G.2.1) s ∧ NWs s ∧ (∀ q ∈ SR, vk_R q.1 q.2.1 q.2.2.1 (G.2.2.1 q.2.2.2) s) ∧ AOs s ∧ CFc G A s s.heap ∧ (∀ q, s.heap.size ≤ q → A q)
/-- the abstract heap is the real one's picture -/
def HM (G : GD) (A : Nat → Prop) (H0 : Heap) (h : AH) (n : Nat) (H : Heap) (locs : List Loc) (ad : Nat → Nat) : Prop :=
  va_P G.1 vwCl (wsH G ad h n) H ∧ va_D A (wsH G ad h n) ∧ va_S A H0 H locs ∧ nC ≤ n ∧ (∀ i, nC ≤ i → i < n → clE n (h i)) ∧ ∀ i, i < nC → h i = G.2.2.2 i ∧ ad i = G.2.2.1 i ∧ clE nC (h i)
/-- locals and stack -/
def LM (ad : Nat → Nat) (nL n : Nat) (lv : List (Nat × Value)) (st : List Value) (ls : Array Slot) : Prop :=
  lv_has ls nL (lv.map (fun q => (q.1, em ad q.2))) ∧ (∀ q ∈ lv, clV n q.2) ∧ ∀ v ∈ st, clV n v
def Ext (ad0 ad : Nat → Nat) (n0 n : Nat) : Prop := n0 ≤ n ∧ ∀ i, i < n0 → ad i = ad0 i
theorem Ext.rf {ad : Nat → Nat} {n : Nat} : Ext ad ad n n := ⟨Nat.le_refl _, fun _ _ => rfl⟩
theorem Ext.tr {a b c : Nat → Nat} {i j k : Nat} (h : Ext a b i j) (g : Ext b c j k) : Ext a c i k := ⟨Nat.le_trans h.1 g.1, fun x hx => (g.2 x (Nat.lt_of_lt_of_le hx h.1)).trans (h.2 x hx)⟩
def RetAt (M : MI) (pc : Nat) (v : Option Value) : Prop := match v with
  | none => decode M.2.1 pc = .ok (.return_, 1) ∧ M.2.2.2.1 = none
  | some (.int x) => decode M.2.1 pc = .ok (.ireturn, 1) ∧ ∃ ty, M.2.2.2.1 = some ty ∧ narrow ty (.int x) = .int x
  | some (.long _) => decode M.2.1 pc = .ok (.lreturn, 1) ∧ M.2.2.2.1 = some .long
  | some (.ref _) => decode M.2.1 pc = .ok (.areturn, 1) ∧ ∃ rt, M.2.2.2.1 = some rt ∧ ((∃ nm, rt = FieldType.object nm) ∨ ∃ t, rt = FieldType.array t)
  | _ => False
/-- thrown: E, the heap grown from H at most -/
def vx_XH (E : String) (H : Heap) : String → State → State → Prop := fun E' _ t => E' = E ∧ H.size ≤ t.heap.size ∧ ∀ q : Nat, q < H.size → t.heap[q]? = H[q]?
/-- what the ends of the frame give -/
def EN (G : GD) (M : MI) (p : Program) (l : Launch) (e : Env) (R : Room) (s : State) (m : MethodId) (args : Array Value) (below : List Frame) (meth : Method) (c : Code) (A : Nat → Prop) (ad0 : Nat → Nat) (n0 : Nat) (Q : State → Prop) (Post : ARes → AH → Nat → Prop) : Prop :=
  (∀ (H : Heap) (locs : List Loc) (cells slots : Nat) (ls : Array Slot) (ad : Nat → Nat) (h : AH) (n : Nat) (v : Option Value) (pc : Nat), HM G A s.heap h n H locs ad → Ext ad0 ad n0 n → (∀ v', v = some v' → clV n v') → Post (.inl v) h n → cells ≤ R.cells → slots ≤ R.slots → RetAt M pc v →
    W p l e R s m args below meth c H locs cells slots Q (F0 m pc ls (v.map (em ad)).toList)) ∧
  (∀ (H : Heap) (locs : List Loc) (ad : Nat → Nat) (h : AH) (n : Nat) (E : String), HM G A s.heap h n H locs ad → Ext ad0 ad n0 n → Post (.inr E) h n → ∀ t, vx_MQ below (fun _ _ _ _ => False) (vx_XH E H) args s R.cells R.slots A t → Q t)
/-- a place in method M: whatever the frame, it comes to an end as Post says; d: calls deep; bc, bs: cells and slots that may still be made -/
def SW (SR : SRT) (M : MI) (d bc bs : Nat) (pc : Nat) (lv : List (Nat × Value)) (st : List Value) (h : AH) (n : Nat) (Post : ARes → AH → Nat → Prop) : Prop :=
  ∀ (G : GD) (p : Program) (l : Launch) (e : Env) (R : Room) (s : State) (m : MethodId) (args : Array Value) (below : List Frame) (meth : Method) (c : Code) (A : Nat → Prop) (ad0 : Nat → Nat) (n0 : Nat) (Q : State → Prop),
    CX SR G M p l s m args meth c A → RM d R → EN G M p l e R s m args below meth c A ad0 n0 Q Post →
    ∀ (H : Heap) (locs : List Loc) (cells slots : Nat) (ls : Array Slot) (ad : Nat → Nat), HM G A s.heap h n H locs ad → LM ad M.2.2.1 n lv st ls → Ext ad0 ad n0 n → cells + bc ≤ R.cells → slots + bs ≤ R.slots →
    W p l e R s m args below meth c H locs cells slots Q (F0 m pc ls (st.map (em ad)))
/-- what a callee is given, and gives -/
def PicU (SR : SRT) (G : GD) (ad : Nat → Nat) (h : AH) (n sz : Nat) (U : State) : Prop :=
  U.heap.size = sz ∧ va_P G.1 vwCl (wsH G ad h n) U.heap ∧ va_D (fun _ => True) (wsH G ad h n) ∧ nC ≤ n ∧ (∀ i, nC ≤ i → i < n → clE n (h i)) ∧ (∀ i, i < nC → h i = G.2.2.2 i ∧ ad i = G.2.2.1 i ∧ clE nC (h i)) ∧
  va_K G.1 vwCl (tysOf G.2.1) U ∧ NWs U ∧ (∀ q ∈ SR, vk_R q.1 q.2.1 q.2.2.1 (G.2.2.1 q.2.2.2) U) ∧ AOs U ∧ CFc G (va_A (wsH G ad h n) sz) U U.heap
def PicT (G : GD) (A : Nat → Prop) (ad : Nat → Nat) (h : AH) (n : Nat) (t : State) : Prop :=
  va_P G.1 vwCl (wsH G ad h n) t.heap ∧ va_D A (wsH G ad h n) ∧ nC ≤ n ∧ (∀ i, nC ≤ i → i < n → clE n (h i)) ∧ ∀ i, i < nC → h i = G.2.2.2 i ∧ ad i = G.2.2.1 i ∧ clE nC (h i)
def SQc (G : GD) (A : Nat → Prop) (ad : Nat → Nat) (n : Nat) (Post : ARes → AH → Nat → Prop) : Array Value → State → Outcome → State → Prop := fun _ st o t =>
  (∃ (v : Option Value) (ad' : Nat → Nat) (h' : AH) (n' : Nat), o = .returned (v.map (em ad')) ∧ Post (.inl v) h' n' ∧ Ext ad ad' n n' ∧ (∀ v', v = some v' → clV n' v') ∧ PicT G A ad' h' n' t) ∧ va_F A st t
def SXc (G : GD) (A : Nat → Prop) (ad : Nat → Nat) (n : Nat) (Post : ARes → AH → Nat → Prop) : String → State → State → Prop := fun E st t =>
  (∃ (ad' : Nat → Nat) (h' : AH) (n' : Nat), Post (.inr E) h' n' ∧ Ext ad ad' n n' ∧ PicT G A ad' h' n' t) ∧ va_F A st t
/-- method M, called with as in the heap h of n things, ends as Post says -/
def SM (SR : SRT) (M : MI) (d bc bs : Nat) (as : List Value) (h : AH) (n : Nat) (Post : ARes → AH → Nat → Prop) : Prop :=
  ∀ (l : Launch), l.stackTraces = false → ∀ (G : GD) (ad : Nat → Nat) (sz : Nat), (∀ v ∈ as, clV n v) →
    vx_Met l M.1 (wsM M) (rmOf d bc bs) (va_Pc (as.map (em ad)) (PicU SR G ad h n sz)) (SQc G (va_A (wsH G ad h n) sz) ad n Post) (SXc G (va_A (wsH G ad h n) sz) ad n Post) bc bs (va_A (wsH G ad h n) sz)
theorem HM.lt {G : GD} {A : Nat → Prop} {H0 : Heap} {h : AH} {n : Nat} {H : Heap} {locs : List Loc} {ad : Nat → Nat} (hm : HM G A H0 h n H locs ad) : nC ≤ n := hm.2.2.2.1
theorem lv_get {ad : Nat → Nat} {nL n : Nat} {lv : List (Nat × Value)} {st : List Value} {ls : Array Slot} (hl : LM ad nL n lv st ls) {i : Nat} {v : Value} (h : (i, v) ∈ lv) : ls[i]? = some (.val (em ad v)) := hl.1.2.2 (i, em ad v) (List.mem_map.mpr ⟨(i, v), h, rfl⟩)
def lvG (lv : List (Nat × Value)) (i : Nat) : Option Value := match lv with
  | [] => none
  | q :: r => bif q.1 == i then some q.2 else lvG r i
theorem lvG_mem {lv : List (Nat × Value)} {i : Nat} {v : Value} (h : lvG lv i = some v) : (i, v) ∈ lv := by
  induction lv with
  | nil => cases h
  | cons q r ih =>
    unfold lvG at h
    cases hq : q.1 == i with
    | true =>
      rw [hq] at h
      have h1 : q.1 = i := by simpa using hq
      have h2 : q.2 = v := Option.some.inj h
      rw [← h1, ← h2]
      exact List.mem_cons_self
    | false =>
      rw [hq] at h
      exact List.mem_cons_of_mem _ (ih h)
theorem LM.stk {ad : Nat → Nat} {nL n : Nat} {lv : List (Nat × Value)} {st st' : List Value} {ls : Array Slot} (h : LM ad nL n lv st ls) (g : ∀ v ∈ st', clV n v) : LM ad nL n lv st' ls := ⟨h.1, h.2.1, g⟩
theorem clV_int {n : Nat} {x : Int32} : clV n (.int x) := fun _ h => by cases h
theorem clV_long {n : Nat} {x : Int64} : clV n (.long x) := fun _ h => by cases h
theorem clV_null {n : Nat} : clV n .null := fun _ h => by cases h
theorem cl1 {n : Nat} {v : Value} {st : List Value} (h : ∀ w ∈ v :: st, clV n w) : ∀ w ∈ st, clV n w := fun w hw => h w (List.mem_cons_of_mem _ hw)
theorem cl2 {n : Nat} {v u : Value} {st : List Value} (h : ∀ w ∈ u :: v :: st, clV n w) : ∀ w ∈ st, clV n w := cl1 (cl1 h)
theorem clc {n : Nat} {v : Value} {st : List Value} (h : ∀ w ∈ st, clV n w) (g : clV n v) : ∀ w ∈ v :: st, clV n w := fun w hw => (List.mem_cons.mp hw).elim (fun e => e ▸ g) (h w)
theorem em_cat {ad : Nat → Nat} {v : Value} : (em ad v).category = v.category := by cases v <;> rfl
/-- the locals after a store of one slot -/
def lvS (i : Nat) (v : Value) (lv : List (Nat × Value)) : List (Nat × Value) := (i, v) :: lv.filter (fun q => !(q.1 == i) && !(q.1 + 1 == i && q.2.category == 2))
def lvS2 (i : Nat) (v : Value) (lv : List (Nat × Value)) : List (Nat × Value) := (i, v) :: lv.filter (fun q => !(q.1 == i) && (!(q.1 == i + 1) && !(q.1 + 1 == i && q.2.category == 2)))
theorem lvS_map {ad : Nat → Nat} {i : Nat} {v : Value} {lv : List (Nat × Value)} : (i, em ad v) :: (lv.map (fun q => (q.1, em ad q.2))).filter (fun q => !(q.1 == i) && !(q.1 + 1 == i && q.2.category == 2)) = (lvS i v lv).map (fun q => (q.1, em ad q.2)) := by
  unfold lvS
  rw [List.map_cons, List.filter_map]
  congr 2
  apply List.filter_congr
  intro q _
  show (!(q.1 == i) && !(q.1 + 1 == i && (em ad q.2).category == 2)) = _
  rw [em_cat]
theorem lvS2_map {ad : Nat → Nat} {i : Nat} {v : Value} {lv : List (Nat × Value)} : (i, em ad v) :: (lv.map (fun q => (q.1, em ad q.2))).filter (fun q => !(q.1 == i) && (!(q.1 == i + 1) && !(q.1 + 1 == i && q.2.category == 2))) = (lvS2 i v lv).map (fun q => (q.1, em ad q.2)) := by
  unfold lvS2
  rw [List.map_cons, List.filter_map]
  congr 2
  apply List.filter_congr
  intro q _
  show (!(q.1 == i) && (!(q.1 == i + 1) && !(q.1 + 1 == i && (em ad q.2).category == 2))) = _
  rw [em_cat]
theorem lvS_cl {n i : Nat} {v : Value} {lv : List (Nat × Value)} (h : ∀ q ∈ lv, clV n q.2) (g : clV n v) : ∀ q ∈ lvS i v lv, clV n q.2 := fun q hq => (List.mem_cons.mp hq).elim (fun e => by rw [e]; exact g) (fun h1 => h q (List.mem_filter.mp h1).1)
theorem lvS2_cl {n i : Nat} {v : Value} {lv : List (Nat × Value)} (h : ∀ q ∈ lv, clV n q.2) (g : clV n v) : ∀ q ∈ lvS2 i v lv, clV n q.2 := fun q hq => (List.mem_cons.mp hq).elim (fun e => by rw [e]; exact g) (fun h1 => h q (List.mem_filter.mp h1).1)
end
section
section
variable {SR : SRT} {M : MI} {d bc bs pc pc' tgt n : Nat} {lv : List (Nat × Value)} {st : List Value} {h : AH} {Post : ARes → AH → Nat → Prop}
theorem sw_iconst {k0 : Int} {v : Int32} (hp : pc + 1 = pc') (hdg : decode M.2.1 pc = .ok (.iconst k0, 1)) (hv : Int32.ofInt k0 = v) (k : SW SR M d bc bs pc' lv (.int v :: st) h n Post) : SW SR M d bc bs pc lv (st) h n Post := by
  subst hp
  intro G p l e R s m args below meth c A ad0 n0 Q hc hr he H locs cells slots ls ad hm hl hx hbc hbs
  have hk := k G p l e R s m args below meth c A ad0 n0 Q hc hr he H locs cells slots ls ad hm (hl.stk (clc hl.2.2 clV_int)) hx hbc hbs
  exact lv_iconst hc.1 hc.2.1 hdg hv hk
theorem sw_bipush {k0 : Int} {v : Int32} (hp : pc + 2 = pc') (hdg : decode M.2.1 pc = .ok (.bipush k0, 2)) (hv : (Int8.ofInt k0).toInt32 = v) (k : SW SR M d bc bs pc' lv (.int v :: st) h n Post) : SW SR M d bc bs pc lv (st) h n Post := by
  subst hp
  intro G p l e R s m args below meth c A ad0 n0 Q hc hr he H locs cells slots ls ad hm hl hx hbc hbs
  have hk := k G p l e R s m args below meth c A ad0 n0 Q hc hr he H locs cells slots ls ad hm (hl.stk (clc hl.2.2 clV_int)) hx hbc hbs
  exact lv_bipush hc.1 hc.2.1 hdg hv hk
theorem sw_sipush {k0 : Int} {v : Int32} (hp : pc + 3 = pc') (hdg : decode M.2.1 pc = .ok (.sipush k0, 3)) (hv : (Int16.ofInt k0).toInt32 = v) (k : SW SR M d bc bs pc' lv (.int v :: st) h n Post) : SW SR M d bc bs pc lv (st) h n Post := by
  subst hp
  intro G p l e R s m args below meth c A ad0 n0 Q hc hr he H locs cells slots ls ad hm hl hx hbc hbs
  have hk := k G p l e R s m args below meth c A ad0 n0 Q hc hr he H locs cells slots ls ad hm (hl.stk (clc hl.2.2 clV_int)) hx hbc hbs
  exact lv_sipush hc.1 hc.2.1 hdg hv hk
theorem sw_lconst {k0 : Fin 2} {v : Int64} (hp : pc + 1 = pc') (hdg : decode M.2.1 pc = .ok (.lconst k0, 1)) (hv : Int64.ofNat (k0 : Nat) = v) (k : SW SR M d bc bs pc' lv (.long v :: st) h n Post) : SW SR M d bc bs pc lv (st) h n Post := by
  subst hp
  intro G p l e R s m args below meth c A ad0 n0 Q hc hr he H locs cells slots ls ad hm hl hx hbc hbs
  have hk := k G p l e R s m args below meth c A ad0 n0 Q hc hr he H locs cells slots ls ad hm (hl.stk (clc hl.2.2 clV_long)) hx hbc hbs
  exact lv_lconst hc.1 hc.2.1 hdg hv hk
theorem sw_iload_n {k0 : Fin 4} {x : Int32} (hp : pc + 1 = pc') (hdg : decode M.2.1 pc = .ok (.iload_n k0, 1)) (hv : lvG lv k0 = some (.int x)) (k : SW SR M d bc bs pc' lv (.int x :: st) h n Post) : SW SR M d bc bs pc lv (st) h n Post := by
  subst hp
  intro G p l e R s m args below meth c A ad0 n0 Q hc hr he H locs cells slots ls ad hm hl hx hbc hbs
  have hk := k G p l e R s m args below meth c A ad0 n0 Q hc hr he H locs cells slots ls ad hm (hl.stk (clc hl.2.2 (hl.2.1 _ (lvG_mem hv)))) hx hbc hbs
  exact lv_iload_n hc.1 hc.2.1 hdg rfl (lv_get hl (lvG_mem hv)) hk
theorem sw_iload {i : Nat} {x : Int32} (hp : pc + 2 = pc') (hdg : decode M.2.1 pc = .ok (.iload i, 2)) (hv : lvG lv i = some (.int x)) (k : SW SR M d bc bs pc' lv (.int x :: st) h n Post) : SW SR M d bc bs pc lv (st) h n Post := by
  subst hp
  intro G p l e R s m args below meth c A ad0 n0 Q hc hr he H locs cells slots ls ad hm hl hx hbc hbs
  have hk := k G p l e R s m args below meth c A ad0 n0 Q hc hr he H locs cells slots ls ad hm (hl.stk (clc hl.2.2 (hl.2.1 _ (lvG_mem hv)))) hx hbc hbs
  exact lv_iload hc.1 hc.2.1 hdg (lv_get hl (lvG_mem hv)) hk
theorem sw_lload_n {k0 : Fin 4} {x : Int64} (hp : pc + 1 = pc') (hdg : decode M.2.1 pc = .ok (.lload_n k0, 1)) (hv : lvG lv k0 = some (.long x)) (k : SW SR M d bc bs pc' lv (.long x :: st) h n Post) : SW SR M d bc bs pc lv (st) h n Post := by
  subst hp
  intro G p l e R s m args below meth c A ad0 n0 Q hc hr he H locs cells slots ls ad hm hl hx hbc hbs
  have hk := k G p l e R s m args below meth c A ad0 n0 Q hc hr he H locs cells slots ls ad hm (hl.stk (clc hl.2.2 (hl.2.1 _ (lvG_mem hv)))) hx hbc hbs
  exact lv_lload_n hc.1 hc.2.1 hdg rfl (lv_get hl (lvG_mem hv)) hk
theorem sw_lload {i : Nat} {x : Int64} (hp : pc + 2 = pc') (hdg : decode M.2.1 pc = .ok (.lload i, 2)) (hv : lvG lv i = some (.long x)) (k : SW SR M d bc bs pc' lv (.long x :: st) h n Post) : SW SR M d bc bs pc lv (st) h n Post := by
  subst hp
  intro G p l e R s m args below meth c A ad0 n0 Q hc hr he H locs cells slots ls ad hm hl hx hbc hbs
  have hk := k G p l e R s m args below meth c A ad0 n0 Q hc hr he H locs cells slots ls ad hm (hl.stk (clc hl.2.2 (hl.2.1 _ (lvG_mem hv)))) hx hbc hbs
  exact lv_lload hc.1 hc.2.1 hdg (lv_get hl (lvG_mem hv)) hk
theorem sw_aload_n {k0 : Fin 4} {x : Nat} (hp : pc + 1 = pc') (hdg : decode M.2.1 pc = .ok (.aload_n k0, 1)) (hv : lvG lv k0 = some (.ref x)) (k : SW SR M d bc bs pc' lv (.ref x :: st) h n Post) : SW SR M d bc bs pc lv (st) h n Post := by
  subst hp
  intro G p l e R s m args below meth c A ad0 n0 Q hc hr he H locs cells slots ls ad hm hl hx hbc hbs
  have hk := k G p l e R s m args below meth c A ad0 n0 Q hc hr he H locs cells slots ls ad hm (hl.stk (clc hl.2.2 (hl.2.1 _ (lvG_mem hv)))) hx hbc hbs
  exact lv_aload_n hc.1 hc.2.1 hdg rfl (lv_get hl (lvG_mem hv)) hk
theorem sw_aload {i : Nat} {x : Nat} (hp : pc + 2 = pc') (hdg : decode M.2.1 pc = .ok (.aload i, 2)) (hv : lvG lv i = some (.ref x)) (k : SW SR M d bc bs pc' lv (.ref x :: st) h n Post) : SW SR M d bc bs pc lv (st) h n Post := by
  subst hp
  intro G p l e R s m args below meth c A ad0 n0 Q hc hr he H locs cells slots ls ad hm hl hx hbc hbs
  have hk := k G p l e R s m args below meth c A ad0 n0 Q hc hr he H locs cells slots ls ad hm (hl.stk (clc hl.2.2 (hl.2.1 _ (lvG_mem hv)))) hx hbc hbs
  exact lv_aload hc.1 hc.2.1 hdg (lv_get hl (lvG_mem hv)) hk
theorem sw_aload_nN {k0 : Fin 4} (hp : pc + 1 = pc') (hdg : decode M.2.1 pc = .ok (.aload_n k0, 1)) (hv : lvG lv k0 = some .null) (k : SW SR M d bc bs pc' lv (.null :: st) h n Post) : SW SR M d bc bs pc lv (st) h n Post := by
  subst hp
  intro G p l e R s m args below meth c A ad0 n0 Q hc hr he H locs cells slots ls ad hm hl hx hbc hbs
  have hk := k G p l e R s m args below meth c A ad0 n0 Q hc hr he H locs cells slots ls ad hm (hl.stk (clc hl.2.2 clV_null)) hx hbc hbs
  exact lv_aload_nN hc.1 hc.2.1 hdg rfl (lv_get hl (lvG_mem hv)) hk
theorem sw_aloadN {i : Nat} (hp : pc + 2 = pc') (hdg : decode M.2.1 pc = .ok (.aload i, 2)) (hv : lvG lv i = some .null) (k : SW SR M d bc bs pc' lv (.null :: st) h n Post) : SW SR M d bc bs pc lv (st) h n Post := by
  subst hp
  intro G p l e R s m args below meth c A ad0 n0 Q hc hr he H locs cells slots ls ad hm hl hx hbc hbs
  have hk := k G p l e R s m args below meth c A ad0 n0 Q hc hr he H locs cells slots ls ad hm (hl.stk (clc hl.2.2 clV_null)) hx hbc hbs
  exact lv_aloadN hc.1 hc.2.1 hdg (lv_get hl (lvG_mem hv)) hk
theorem sw_istore_n {k0 : Fin 4} {x : Int32} {lv' : List (Nat × Value)} (hp : pc + 1 = pc') (hdg : decode M.2.1 pc = .ok (.istore_n k0, 1)) (hn : (k0 : Nat) < M.2.2.1) (hl9 : lvS (k0 : Nat) (.int x) lv = lv') (k : SW SR M d bc bs pc' lv' st h n Post) : SW SR M d bc bs pc lv (.int x :: st) h n Post := by
  subst hp
  subst hl9
  intro G p l e R s m args below meth c A ad0 n0 Q hc hr he H locs cells slots ls ad hm hl hx hbc hbs
  refine lv_istore_n hc.1 hc.2.1 hdg rfl hl.1 hn (lvS_map (v := .int x)) (fun ls' hl' => ?_)
  exact k G p l e R s m args below meth c A ad0 n0 Q hc hr he H locs cells slots ls' ad hm ⟨hl', lvS_cl hl.2.1 (hl.2.2 _ List.mem_cons_self), cl1 hl.2.2⟩ hx hbc hbs
theorem sw_istore {i : Nat} {x : Int32} {lv' : List (Nat × Value)} (hp : pc + 2 = pc') (hdg : decode M.2.1 pc = .ok (.istore i, 2)) (hn : i < M.2.2.1) (hl9 : lvS i (.int x) lv = lv') (k : SW SR M d bc bs pc' lv' st h n Post) : SW SR M d bc bs pc lv (.int x :: st) h n Post := by
  subst hp
  subst hl9
  intro G p l e R s m args below meth c A ad0 n0 Q hc hr he H locs cells slots ls ad hm hl hx hbc hbs
  refine lv_istore hc.1 hc.2.1 hdg hl.1 hn (lvS_map (v := .int x)) (fun ls' hl' => ?_)
  exact k G p l e R s m args below meth c A ad0 n0 Q hc hr he H locs cells slots ls' ad hm ⟨hl', lvS_cl hl.2.1 (hl.2.2 _ List.mem_cons_self), cl1 hl.2.2⟩ hx hbc hbs
theorem sw_lstore_n {k0 : Fin 4} {x : Int64} {lv' : List (Nat × Value)} (hp : pc + 1 = pc') (hdg : decode M.2.1 pc = .ok (.lstore_n k0, 1)) (hn : (k0 : Nat) + 1 < M.2.2.1) (hl9 : lvS2 (k0 : Nat) (.long x) lv = lv') (k : SW SR M d bc bs pc' lv' st h n Post) : SW SR M d bc bs pc lv (.long x :: st) h n Post := by
  subst hp
  subst hl9
  intro G p l e R s m args below meth c A ad0 n0 Q hc hr he H locs cells slots ls ad hm hl hx hbc hbs
  refine lv_lstore_n hc.1 hc.2.1 hdg rfl hl.1 hn (lvS2_map (v := .long x)) (fun ls' hl' => ?_)
  exact k G p l e R s m args below meth c A ad0 n0 Q hc hr he H locs cells slots ls' ad hm ⟨hl', lvS2_cl hl.2.1 (hl.2.2 _ List.mem_cons_self), cl1 hl.2.2⟩ hx hbc hbs
theorem sw_lstore {i : Nat} {x : Int64} {lv' : List (Nat × Value)} (hp : pc + 2 = pc') (hdg : decode M.2.1 pc = .ok (.lstore i, 2)) (hn : i + 1 < M.2.2.1) (hl9 : lvS2 i (.long x) lv = lv') (k : SW SR M d bc bs pc' lv' st h n Post) : SW SR M d bc bs pc lv (.long x :: st) h n Post := by
  subst hp
  subst hl9
  intro G p l e R s m args below meth c A ad0 n0 Q hc hr he H locs cells slots ls ad hm hl hx hbc hbs
  refine lv_lstore hc.1 hc.2.1 hdg hl.1 hn (lvS2_map (v := .long x)) (fun ls' hl' => ?_)
  exact k G p l e R s m args below meth c A ad0 n0 Q hc hr he H locs cells slots ls' ad hm ⟨hl', lvS2_cl hl.2.1 (hl.2.2 _ List.mem_cons_self), cl1 hl.2.2⟩ hx hbc hbs
theorem sw_astore_n {k0 : Fin 4} {x : Nat} {lv' : List (Nat × Value)} (hp : pc + 1 = pc') (hdg : decode M.2.1 pc = .ok (.astore_n k0, 1)) (hn : (k0 : Nat) < M.2.2.1) (hl9 : lvS (k0 : Nat) (.ref x) lv = lv') (k : SW SR M d bc bs pc' lv' st h n Post) : SW SR M d bc bs pc lv (.ref x :: st) h n Post := by
  subst hp
  subst hl9
  intro G p l e R s m args below meth c A ad0 n0 Q hc hr he H locs cells slots ls ad hm hl hx hbc hbs
  refine lv_astore_n hc.1 hc.2.1 hdg rfl hl.1 hn (lvS_map (v := .ref x)) (fun ls' hl' => ?_)
  exact k G p l e R s m args below meth c A ad0 n0 Q hc hr he H locs cells slots ls' ad hm ⟨hl', lvS_cl hl.2.1 (hl.2.2 _ List.mem_cons_self), cl1 hl.2.2⟩ hx hbc hbs
theorem sw_astore {i : Nat} {x : Nat} {lv' : List (Nat × Value)} (hp : pc + 2 = pc') (hdg : decode M.2.1 pc = .ok (.astore i, 2)) (hn : i < M.2.2.1) (hl9 : lvS i (.ref x) lv = lv') (k : SW SR M d bc bs pc' lv' st h n Post) : SW SR M d bc bs pc lv (.ref x :: st) h n Post := by
  subst hp
  subst hl9
  intro G p l e R s m args below meth c A ad0 n0 Q hc hr he H locs cells slots ls ad hm hl hx hbc hbs
  refine lv_astore hc.1 hc.2.1 hdg hl.1 hn (lvS_map (v := .ref x)) (fun ls' hl' => ?_)
  exact k G p l e R s m args below meth c A ad0 n0 Q hc hr he H locs cells slots ls' ad hm ⟨hl', lvS_cl hl.2.1 (hl.2.2 _ List.mem_cons_self), cl1 hl.2.2⟩ hx hbc hbs
theorem sw_astore_nN {k0 : Fin 4} {lv' : List (Nat × Value)} (hp : pc + 1 = pc') (hdg : decode M.2.1 pc = .ok (.astore_n k0, 1)) (hn : (k0 : Nat) < M.2.2.1) (hl9 : lvS (k0 : Nat) (.null) lv = lv') (k : SW SR M d bc bs pc' lv' st h n Post) : SW SR M d bc bs pc lv (.null :: st) h n Post := by
  subst hp
  subst hl9
  intro G p l e R s m args below meth c A ad0 n0 Q hc hr he H locs cells slots ls ad hm hl hx hbc hbs
  refine lv_astore_nN hc.1 hc.2.1 hdg rfl hl.1 hn (lvS_map (v := .null)) (fun ls' hl' => ?_)
  exact k G p l e R s m args below meth c A ad0 n0 Q hc hr he H locs cells slots ls' ad hm ⟨hl', lvS_cl hl.2.1 (hl.2.2 _ List.mem_cons_self), cl1 hl.2.2⟩ hx hbc hbs
theorem sw_astoreN {i : Nat} {lv' : List (Nat × Value)} (hp : pc + 2 = pc') (hdg : decode M.2.1 pc = .ok (.astore i, 2)) (hn : i < M.2.2.1) (hl9 : lvS i (.null) lv = lv') (k : SW SR M d bc bs pc' lv' st h n Post) : SW SR M d bc bs pc lv (.null :: st) h n Post := by
  subst hp
  subst hl9
  intro G p l e R s m args below meth c A ad0 n0 Q hc hr he H locs cells slots ls ad hm hl hx hbc hbs
  refine lv_astoreN hc.1 hc.2.1 hdg hl.1 hn (lvS_map (v := .null)) (fun ls' hl' => ?_)
  exact k G p l e R s m args below meth c A ad0 n0 Q hc hr he H locs cells slots ls' ad hm ⟨hl', lvS_cl hl.2.1 (hl.2.2 _ List.mem_cons_self), cl1 hl.2.2⟩ hx hbc hbs
theorem sw_iinc {i : Nat} {k0 : Int} {x v : Int32} {lv' : List (Nat × Value)} (hp : pc + 3 = pc') (hdg : decode M.2.1 pc = .ok (.iinc i k0, 3)) (hv : lvG lv i = some (.int x)) (hk : x + Int32.ofInt k0 = v) (hn : i < M.2.2.1) (hl9 : lvS i (.int v) lv = lv') (k : SW SR M d bc bs pc' lv' st h n Post) : SW SR M d bc bs pc lv st h n Post := by
  subst hp
  subst hl9
  intro G p l e R s m args below meth c A ad0 n0 Q hc hr he H locs cells slots ls ad hm hl hx hbc hbs
  obtain ⟨k9, hk9⟩ := List.getElem?_of_mem (List.mem_map.mpr ⟨(i, Value.int x), lvG_mem hv, rfl⟩ : (i, em ad (.int x)) ∈ lv.map (fun q => (q.1, em ad q.2)))
  refine lv_iinc hc.1 hc.2.1 hdg hl.1 hk9 hk hn (lvS_map (v := .int v)) (fun ls' hl' => ?_)
  exact k G p l e R s m args below meth c A ad0 n0 Q hc hr he H locs cells slots ls' ad hm ⟨hl', lvS_cl hl.2.1 clV_int, hl.2.2⟩ hx hbc hbs
theorem sw_iadd {x y : Int32} (hp : pc + 1 = pc') (hdg : decode M.2.1 pc = .ok (.iadd, 1)) (k : SW SR M d bc bs pc' lv (.int (x + y) :: st) h n Post) : SW SR M d bc bs pc lv (.int y :: .int x :: st) h n Post := by
  subst hp
  intro G p l e R s m args below meth c A ad0 n0 Q hc hr he H locs cells slots ls ad hm hl hx hbc hbs
  have hk := k G p l e R s m args below meth c A ad0 n0 Q hc hr he H locs cells slots ls ad hm (hl.stk (clc (cl2 hl.2.2) clV_int)) hx hbc hbs
  exact lv_iadd hc.1 hc.2.1 hdg hk
theorem sw_isub {x y : Int32} (hp : pc + 1 = pc') (hdg : decode M.2.1 pc = .ok (.isub, 1)) (k : SW SR M d bc bs pc' lv (.int (x - y) :: st) h n Post) : SW SR M d bc bs pc lv (.int y :: .int x :: st) h n Post := by
  subst hp
  intro G p l e R s m args below meth c A ad0 n0 Q hc hr he H locs cells slots ls ad hm hl hx hbc hbs
  have hk := k G p l e R s m args below meth c A ad0 n0 Q hc hr he H locs cells slots ls ad hm (hl.stk (clc (cl2 hl.2.2) clV_int)) hx hbc hbs
  exact lv_isub hc.1 hc.2.1 hdg hk
theorem sw_imul {x y : Int32} (hp : pc + 1 = pc') (hdg : decode M.2.1 pc = .ok (.imul, 1)) (k : SW SR M d bc bs pc' lv (.int (x * y) :: st) h n Post) : SW SR M d bc bs pc lv (.int y :: .int x :: st) h n Post := by
  subst hp
  intro G p l e R s m args below meth c A ad0 n0 Q hc hr he H locs cells slots ls ad hm hl hx hbc hbs
  have hk := k G p l e R s m args below meth c A ad0 n0 Q hc hr he H locs cells slots ls ad hm (hl.stk (clc (cl2 hl.2.2) clV_int)) hx hbc hbs
  exact lv_imul hc.1 hc.2.1 hdg hk
theorem sw_iand {x y : Int32} (hp : pc + 1 = pc') (hdg : decode M.2.1 pc = .ok (.iand, 1)) (k : SW SR M d bc bs pc' lv (.int (x &&& y) :: st) h n Post) : SW SR M d bc bs pc lv (.int y :: .int x :: st) h n Post := by
  subst hp
  intro G p l e R s m args below meth c A ad0 n0 Q hc hr he H locs cells slots ls ad hm hl hx hbc hbs
  have hk := k G p l e R s m args below meth c A ad0 n0 Q hc hr he H locs cells slots ls ad hm (hl.stk (clc (cl2 hl.2.2) clV_int)) hx hbc hbs
  exact lv_iand hc.1 hc.2.1 hdg hk
theorem sw_ior {x y : Int32} (hp : pc + 1 = pc') (hdg : decode M.2.1 pc = .ok (.ior, 1)) (k : SW SR M d bc bs pc' lv (.int (x ||| y) :: st) h n Post) : SW SR M d bc bs pc lv (.int y :: .int x :: st) h n Post := by
  subst hp
  intro G p l e R s m args below meth c A ad0 n0 Q hc hr he H locs cells slots ls ad hm hl hx hbc hbs
  have hk := k G p l e R s m args below meth c A ad0 n0 Q hc hr he H locs cells slots ls ad hm (hl.stk (clc (cl2 hl.2.2) clV_int)) hx hbc hbs
  exact lv_ior hc.1 hc.2.1 hdg hk
theorem sw_ixor {x y : Int32} (hp : pc + 1 = pc') (hdg : decode M.2.1 pc = .ok (.ixor, 1)) (k : SW SR M d bc bs pc' lv (.int (x ^^^ y) :: st) h n Post) : SW SR M d bc bs pc lv (.int y :: .int x :: st) h n Post := by
  subst hp
  intro G p l e R s m args below meth c A ad0 n0 Q hc hr he H locs cells slots ls ad hm hl hx hbc hbs
  have hk := k G p l e R s m args below meth c A ad0 n0 Q hc hr he H locs cells slots ls ad hm (hl.stk (clc (cl2 hl.2.2) clV_int)) hx hbc hbs
  exact lv_ixor hc.1 hc.2.1 hdg hk
theorem sw_ishl {x y : Int32} (hp : pc + 1 = pc') (hdg : decode M.2.1 pc = .ok (.ishl, 1)) (k : SW SR M d bc bs pc' lv (.int (x <<< (y &&& 31)) :: st) h n Post) : SW SR M d bc bs pc lv (.int y :: .int x :: st) h n Post := by
  subst hp
  intro G p l e R s m args below meth c A ad0 n0 Q hc hr he H locs cells slots ls ad hm hl hx hbc hbs
  have hk := k G p l e R s m args below meth c A ad0 n0 Q hc hr he H locs cells slots ls ad hm (hl.stk (clc (cl2 hl.2.2) clV_int)) hx hbc hbs
  exact lv_ishl hc.1 hc.2.1 hdg hk
theorem sw_ishr {x y : Int32} (hp : pc + 1 = pc') (hdg : decode M.2.1 pc = .ok (.ishr, 1)) (k : SW SR M d bc bs pc' lv (.int (x >>> (y &&& 31)) :: st) h n Post) : SW SR M d bc bs pc lv (.int y :: .int x :: st) h n Post := by
  subst hp
  intro G p l e R s m args below meth c A ad0 n0 Q hc hr he H locs cells slots ls ad hm hl hx hbc hbs
  have hk := k G p l e R s m args below meth c A ad0 n0 Q hc hr he H locs cells slots ls ad hm (hl.stk (clc (cl2 hl.2.2) clV_int)) hx hbc hbs
  exact lv_ishr hc.1 hc.2.1 hdg hk
theorem sw_ladd {x y : Int64} (hp : pc + 1 = pc') (hdg : decode M.2.1 pc = .ok (.ladd, 1)) (k : SW SR M d bc bs pc' lv (.long (x + y) :: st) h n Post) : SW SR M d bc bs pc lv (.long y :: .long x :: st) h n Post := by
  subst hp
  intro G p l e R s m args below meth c A ad0 n0 Q hc hr he H locs cells slots ls ad hm hl hx hbc hbs
  have hk := k G p l e R s m args below meth c A ad0 n0 Q hc hr he H locs cells slots ls ad hm (hl.stk (clc (cl2 hl.2.2) clV_long)) hx hbc hbs
  exact lv_ladd hc.1 hc.2.1 hdg hk
theorem sw_lmul {x y : Int64} (hp : pc + 1 = pc') (hdg : decode M.2.1 pc = .ok (.lmul, 1)) (k : SW SR M d bc bs pc' lv (.long (x * y) :: st) h n Post) : SW SR M d bc bs pc lv (.long y :: .long x :: st) h n Post := by
  subst hp
  intro G p l e R s m args below meth c A ad0 n0 Q hc hr he H locs cells slots ls ad hm hl hx hbc hbs
  have hk := k G p l e R s m args below meth c A ad0 n0 Q hc hr he H locs cells slots ls ad hm (hl.stk (clc (cl2 hl.2.2) clV_long)) hx hbc hbs
  exact lv_lmul hc.1 hc.2.1 hdg hk
theorem sw_lsub {x y : Int64} (hp : pc + 1 = pc') (hdg : decode M.2.1 pc = .ok (.lsub, 1)) (k : SW SR M d bc bs pc' lv (.long (x - y) :: st) h n Post) : SW SR M d bc bs pc lv (.long y :: .long x :: st) h n Post := by
  subst hp
  intro G p l e R s m args below meth c A ad0 n0 Q hc hr he H locs cells slots ls ad hm hl hx hbc hbs
  have hk := k G p l e R s m args below meth c A ad0 n0 Q hc hr he H locs cells slots ls ad hm (hl.stk (clc (cl2 hl.2.2) clV_long)) hx hbc hbs
  exact lv_lsub hc.1 hc.2.1 hdg hk
theorem sw_idiv {x y : Int32} (hp : pc + 1 = pc') (hdg : decode M.2.1 pc = .ok (.idiv, 1)) (hz : ¬ y = 0) (k : SW SR M d bc bs pc' lv (.int (x / y) :: st) h n Post) : SW SR M d bc bs pc lv (.int y :: .int x :: st) h n Post := by
  subst hp
  intro G p l e R s m args below meth c A ad0 n0 Q hc hr he H locs cells slots ls ad hm hl hx hbc hbs
  have hk := k G p l e R s m args below meth c A ad0 n0 Q hc hr he H locs cells slots ls ad hm (hl.stk (clc (cl2 hl.2.2) clV_int)) hx hbc hbs
  exact lv_idiv hc.1 hc.2.1 hdg hz hk
theorem sw_irem {x y : Int32} (hp : pc + 1 = pc') (hdg : decode M.2.1 pc = .ok (.irem, 1)) (hz : ¬ y = 0) (k : SW SR M d bc bs pc' lv (.int (x - x / y * y) :: st) h n Post) : SW SR M d bc bs pc lv (.int y :: .int x :: st) h n Post := by
  subst hp
  intro G p l e R s m args below meth c A ad0 n0 Q hc hr he H locs cells slots ls ad hm hl hx hbc hbs
  have hk := k G p l e R s m args below meth c A ad0 n0 Q hc hr he H locs cells slots ls ad hm (hl.stk (clc (cl2 hl.2.2) clV_int)) hx hbc hbs
  exact lv_irem hc.1 hc.2.1 hdg hz hk
theorem sw_ineg {x : Int32} (hp : pc + 1 = pc') (hdg : decode M.2.1 pc = .ok (.ineg, 1)) (k : SW SR M d bc bs pc' lv (.int (-x) :: st) h n Post) : SW SR M d bc bs pc lv (.int x :: st) h n Post := by
  subst hp
  intro G p l e R s m args below meth c A ad0 n0 Q hc hr he H locs cells slots ls ad hm hl hx hbc hbs
  have hk := k G p l e R s m args below meth c A ad0 n0 Q hc hr he H locs cells slots ls ad hm (hl.stk (clc (cl1 hl.2.2) clV_int)) hx hbc hbs
  exact lv_ineg hc.1 hc.2.1 hdg hk
theorem sw_iushr {x y v : Int32} (hp : pc + 1 = pc') (hdg : decode M.2.1 pc = .ok (.iushr, 1)) (hv : (x.toUInt32 >>> (y.toUInt32 &&& Int32.toUInt32 31)).toInt32 = v) (k : SW SR M d bc bs pc' lv (.int v :: st) h n Post) : SW SR M d bc bs pc lv (.int y :: .int x :: st) h n Post := by
  subst hp
  intro G p l e R s m args below meth c A ad0 n0 Q hc hr he H locs cells slots ls ad hm hl hx hbc hbs
  have hk := k G p l e R s m args below meth c A ad0 n0 Q hc hr he H locs cells slots ls ad hm (hl.stk (clc (cl2 hl.2.2) clV_int)) hx hbc hbs
  exact lv_iushr hc.1 hc.2.1 hdg hv hk
theorem sw_i2l {x : Int32} (hp : pc + 1 = pc') (hdg : decode M.2.1 pc = .ok (.i2l, 1)) (k : SW SR M d bc bs pc' lv (.long x.toInt64 :: st) h n Post) : SW SR M d bc bs pc lv (.int x :: st) h n Post := by
  subst hp
  intro G p l e R s m args below meth c A ad0 n0 Q hc hr he H locs cells slots ls ad hm hl hx hbc hbs
  have hk := k G p l e R s m args below meth c A ad0 n0 Q hc hr he H locs cells slots ls ad hm (hl.stk (clc (cl1 hl.2.2) clV_long)) hx hbc hbs
  exact lv_i2l hc.1 hc.2.1 hdg rfl hk
theorem sw_i2b {x : Int32} (hp : pc + 1 = pc') (hdg : decode M.2.1 pc = .ok (.i2b, 1)) (k : SW SR M d bc bs pc' lv (.int x.toInt8.toInt32 :: st) h n Post) : SW SR M d bc bs pc lv (.int x :: st) h n Post := by
  subst hp
  intro G p l e R s m args below meth c A ad0 n0 Q hc hr he H locs cells slots ls ad hm hl hx hbc hbs
  have hk := k G p l e R s m args below meth c A ad0 n0 Q hc hr he H locs cells slots ls ad hm (hl.stk (clc (cl1 hl.2.2) clV_int)) hx hbc hbs
  exact lv_i2b hc.1 hc.2.1 hdg rfl hk
theorem sw_i2c {x : Int32} (hp : pc + 1 = pc') (hdg : decode M.2.1 pc = .ok (.i2c, 1)) (k : SW SR M d bc bs pc' lv (.int (x.toUInt32 % 65536).toInt32 :: st) h n Post) : SW SR M d bc bs pc lv (.int x :: st) h n Post := by
  subst hp
  intro G p l e R s m args below meth c A ad0 n0 Q hc hr he H locs cells slots ls ad hm hl hx hbc hbs
  have hk := k G p l e R s m args below meth c A ad0 n0 Q hc hr he H locs cells slots ls ad hm (hl.stk (clc (cl1 hl.2.2) clV_int)) hx hbc hbs
  exact lv_i2c hc.1 hc.2.1 hdg rfl hk
theorem sw_lcmp {x y : Int64} (hp : pc + 1 = pc') (hdg : decode M.2.1 pc = .ok (.lcmp, 1)) (k : SW SR M d bc bs pc' lv (.int (lg_cmp x y) :: st) h n Post) : SW SR M d bc bs pc lv (.long y :: .long x :: st) h n Post := by
  subst hp
  intro G p l e R s m args below meth c A ad0 n0 Q hc hr he H locs cells slots ls ad hm hl hx hbc hbs
  have hk := k G p l e R s m args below meth c A ad0 n0 Q hc hr he H locs cells slots ls ad hm (hl.stk (clc (cl2 hl.2.2) clV_int)) hx hbc hbs
  exact W.lcmp hc.1 hc.2.1 hdg hk
theorem sw_dup {v : Value} (hp : pc + 1 = pc') (hdg : decode M.2.1 pc = .ok (.dup, 1)) (hv : v.category = 1) (k : SW SR M d bc bs pc' lv (v :: v :: st) h n Post) : SW SR M d bc bs pc lv (v :: st) h n Post := by
  subst hp
  intro G p l e R s m args below meth c A ad0 n0 Q hc hr he H locs cells slots ls ad hm hl hx hbc hbs
  have hk := k G p l e R s m args below meth c A ad0 n0 Q hc hr he H locs cells slots ls ad hm (hl.stk (clc hl.2.2 (hl.2.2 _ List.mem_cons_self))) hx hbc hbs
  exact lv_dup hc.1 hc.2.1 hdg (em_cat.trans hv) hk
theorem sw_pop {v : Value} (hp : pc + 1 = pc') (hdg : decode M.2.1 pc = .ok (.pop, 1)) (hv : v.category = 1) (k : SW SR M d bc bs pc' lv (st) h n Post) : SW SR M d bc bs pc lv (v :: st) h n Post := by
  subst hp
  intro G p l e R s m args below meth c A ad0 n0 Q hc hr he H locs cells slots ls ad hm hl hx hbc hbs
  have hk := k G p l e R s m args below meth c A ad0 n0 Q hc hr he H locs cells slots ls ad hm (hl.stk (cl1 hl.2.2)) hx hbc hbs
  exact lv_pop hc.1 hc.2.1 hdg (em_cat.trans hv) hk
theorem sw_pop2 {v : Value} (hp : pc + 1 = pc') (hdg : decode M.2.1 pc = .ok (.pop2, 1)) (hv : v.category = 2) (k : SW SR M d bc bs pc' lv (st) h n Post) : SW SR M d bc bs pc lv (v :: st) h n Post := by
  subst hp
  intro G p l e R s m args below meth c A ad0 n0 Q hc hr he H locs cells slots ls ad hm hl hx hbc hbs
  have hk := k G p l e R s m args below meth c A ad0 n0 Q hc hr he H locs cells slots ls ad hm (hl.stk (cl1 hl.2.2)) hx hbc hbs
  exact lv_pop2_2 hc.1 hc.2.1 hdg (em_cat.trans hv) hk
theorem sw_dup_x1 {v u : Value} (hp : pc + 1 = pc') (hdg : decode M.2.1 pc = .ok (.dup_x1, 1)) (hv : v.category = 1) (hu : u.category = 1) (k : SW SR M d bc bs pc' lv (v :: u :: v :: st) h n Post) : SW SR M d bc bs pc lv (v :: u :: st) h n Post := by
  subst hp
  intro G p l e R s m args below meth c A ad0 n0 Q hc hr he H locs cells slots ls ad hm hl hx hbc hbs
  have hk := k G p l e R s m args below meth c A ad0 n0 Q hc hr he H locs cells slots ls ad hm (hl.stk (clc (clc (clc (cl2 hl.2.2) (hl.2.2 _ List.mem_cons_self)) (hl.2.2 _ (List.mem_cons_of_mem _ List.mem_cons_self))) (hl.2.2 _ List.mem_cons_self))) hx hbc hbs
  exact lv_dup_x1 hc.1 hc.2.1 hdg (em_cat.trans hv) (em_cat.trans hu) hk
theorem sw_dup2 {v u : Value} (hp : pc + 1 = pc') (hdg : decode M.2.1 pc = .ok (.dup2, 1)) (hv : v.category = 1) (hu : u.category = 1) (k : SW SR M d bc bs pc' lv (v :: u :: v :: u :: st) h n Post) : SW SR M d bc bs pc lv (v :: u :: st) h n Post := by
  subst hp
  intro G p l e R s m args below meth c A ad0 n0 Q hc hr he H locs cells slots ls ad hm hl hx hbc hbs
  have hk := k G p l e R s m args below meth c A ad0 n0 Q hc hr he H locs cells slots ls ad hm (hl.stk (clc (clc hl.2.2 (hl.2.2 _ (List.mem_cons_of_mem _ List.mem_cons_self))) (hl.2.2 _ List.mem_cons_self))) hx hbc hbs
  exact lv_dup2_11 hc.1 hc.2.1 hdg (em_cat.trans hv) (em_cat.trans hu) hk
theorem sw_null  (hp : pc + 1 = pc') (hdg : decode M.2.1 pc = .ok (.aconst_null, 1)) (k : SW SR M d bc bs pc' lv (.null :: st) h n Post) : SW SR M d bc bs pc lv (st) h n Post := by
  subst hp
  intro G p l e R s m args below meth c A ad0 n0 Q hc hr he H locs cells slots ls ad hm hl hx hbc hbs
  have hk := k G p l e R s m args below meth c A ad0 n0 Q hc hr he H locs cells slots ls ad hm (hl.stk (clc hl.2.2 clV_null)) hx hbc hbs
  exact lv_null hc.1 hc.2.1 hdg hk
theorem sw_if_eq {x : Int32} {off : Int} (hp : pc + 3 = pc') (hdg : decode M.2.1 pc = .ok (.ifCond .eq off, 3)) (ht : (pc : Int) + off = (tgt : Int)) (kt : x = 0 → SW SR M d bc bs tgt lv st h n Post) (kf : ¬ x = 0 → SW SR M d bc bs pc' lv st h n Post) : SW SR M d bc bs pc lv (.int x :: st) h n Post := by
  subst hp
  intro G p l e R s m args below meth c A ad0 n0 Q hc hr he H locs cells slots ls ad hm hl hx hbc hbs
  exact lv_if_eq hc.1 hc.2.1 hdg ht (fun z => kt z G p l e R s m args below meth c A ad0 n0 Q hc hr he H locs cells slots ls ad hm (hl.stk (cl1 hl.2.2)) hx hbc hbs) (fun z => kf z G p l e R s m args below meth c A ad0 n0 Q hc hr he H locs cells slots ls ad hm (hl.stk (cl1 hl.2.2)) hx hbc hbs)
theorem sw_icmp_eq {x y : Int32} {off : Int} (hp : pc + 3 = pc') (hdg : decode M.2.1 pc = .ok (.if_icmp .eq off, 3)) (ht : (pc : Int) + off = (tgt : Int)) (kt : x = y → SW SR M d bc bs tgt lv st h n Post) (kf : ¬ x = y → SW SR M d bc bs pc' lv st h n Post) : SW SR M d bc bs pc lv (.int y :: .int x :: st) h n Post := by
  subst hp
  intro G p l e R s m args below meth c A ad0 n0 Q hc hr he H locs cells slots ls ad hm hl hx hbc hbs
  exact lv_icmp_eq hc.1 hc.2.1 hdg ht (fun z => kt z G p l e R s m args below meth c A ad0 n0 Q hc hr he H locs cells slots ls ad hm (hl.stk (cl2 hl.2.2)) hx hbc hbs) (fun z => kf z G p l e R s m args below meth c A ad0 n0 Q hc hr he H locs cells slots ls ad hm (hl.stk (cl2 hl.2.2)) hx hbc hbs)
theorem sw_if_ne {x : Int32} {off : Int} (hp : pc + 3 = pc') (hdg : decode M.2.1 pc = .ok (.ifCond .ne off, 3)) (ht : (pc : Int) + off = (tgt : Int)) (kt : ¬ x = 0 → SW SR M d bc bs tgt lv st h n Post) (kf : x = 0 → SW SR M d bc bs pc' lv st h n Post) : SW SR M d bc bs pc lv (.int x :: st) h n Post := by
  subst hp
  intro G p l e R s m args below meth c A ad0 n0 Q hc hr he H locs cells slots ls ad hm hl hx hbc hbs
  exact lv_if_ne hc.1 hc.2.1 hdg ht (fun z => kt z G p l e R s m args below meth c A ad0 n0 Q hc hr he H locs cells slots ls ad hm (hl.stk (cl1 hl.2.2)) hx hbc hbs) (fun z => kf z G p l e R s m args below meth c A ad0 n0 Q hc hr he H locs cells slots ls ad hm (hl.stk (cl1 hl.2.2)) hx hbc hbs)
theorem sw_icmp_ne {x y : Int32} {off : Int} (hp : pc + 3 = pc') (hdg : decode M.2.1 pc = .ok (.if_icmp .ne off, 3)) (ht : (pc : Int) + off = (tgt : Int)) (kt : ¬ x = y → SW SR M d bc bs tgt lv st h n Post) (kf : x = y → SW SR M d bc bs pc' lv st h n Post) : SW SR M d bc bs pc lv (.int y :: .int x :: st) h n Post := by
  subst hp
  intro G p l e R s m args below meth c A ad0 n0 Q hc hr he H locs cells slots ls ad hm hl hx hbc hbs
  exact lv_icmp_ne hc.1 hc.2.1 hdg ht (fun z => kt z G p l e R s m args below meth c A ad0 n0 Q hc hr he H locs cells slots ls ad hm (hl.stk (cl2 hl.2.2)) hx hbc hbs) (fun z => kf z G p l e R s m args below meth c A ad0 n0 Q hc hr he H locs cells slots ls ad hm (hl.stk (cl2 hl.2.2)) hx hbc hbs)
theorem sw_if_lt {x : Int32} {off : Int} (hp : pc + 3 = pc') (hdg : decode M.2.1 pc = .ok (.ifCond .lt off, 3)) (ht : (pc : Int) + off = (tgt : Int)) (kt : x < 0 → SW SR M d bc bs tgt lv st h n Post) (kf : ¬ x < 0 → SW SR M d bc bs pc' lv st h n Post) : SW SR M d bc bs pc lv (.int x :: st) h n Post := by
  subst hp
  intro G p l e R s m args below meth c A ad0 n0 Q hc hr he H locs cells slots ls ad hm hl hx hbc hbs
  exact lv_if_lt hc.1 hc.2.1 hdg ht (fun z => kt z G p l e R s m args below meth c A ad0 n0 Q hc hr he H locs cells slots ls ad hm (hl.stk (cl1 hl.2.2)) hx hbc hbs) (fun z => kf z G p l e R s m args below meth c A ad0 n0 Q hc hr he H locs cells slots ls ad hm (hl.stk (cl1 hl.2.2)) hx hbc hbs)
theorem sw_icmp_lt {x y : Int32} {off : Int} (hp : pc + 3 = pc') (hdg : decode M.2.1 pc = .ok (.if_icmp .lt off, 3)) (ht : (pc : Int) + off = (tgt : Int)) (kt : x < y → SW SR M d bc bs tgt lv st h n Post) (kf : ¬ x < y → SW SR M d bc bs pc' lv st h n Post) : SW SR M d bc bs pc lv (.int y :: .int x :: st) h n Post := by
  subst hp
  intro G p l e R s m args below meth c A ad0 n0 Q hc hr he H locs cells slots ls ad hm hl hx hbc hbs
  exact lv_icmp_lt hc.1 hc.2.1 hdg ht (fun z => kt z G p l e R s m args below meth c A ad0 n0 Q hc hr he H locs cells slots ls ad hm (hl.stk (cl2 hl.2.2)) hx hbc hbs) (fun z => kf z G p l e R s m args below meth c A ad0 n0 Q hc hr he H locs cells slots ls ad hm (hl.stk (cl2 hl.2.2)) hx hbc hbs)
theorem sw_if_ge {x : Int32} {off : Int} (hp : pc + 3 = pc') (hdg : decode M.2.1 pc = .ok (.ifCond .ge off, 3)) (ht : (pc : Int) + off = (tgt : Int)) (kt : 0 ≤ x → SW SR M d bc bs tgt lv st h n Post) (kf : ¬ 0 ≤ x → SW SR M d bc bs pc' lv st h n Post) : SW SR M d bc bs pc lv (.int x :: st) h n Post := by
  subst hp
  intro G p l e R s m args below meth c A ad0 n0 Q hc hr he H locs cells slots ls ad hm hl hx hbc hbs
  exact lv_if_ge hc.1 hc.2.1 hdg ht (fun z => kt z G p l e R s m args below meth c A ad0 n0 Q hc hr he H locs cells slots ls ad hm (hl.stk (cl1 hl.2.2)) hx hbc hbs) (fun z => kf z G p l e R s m args below meth c A ad0 n0 Q hc hr he H locs cells slots ls ad hm (hl.stk (cl1 hl.2.2)) hx hbc hbs)
theorem sw_icmp_ge {x y : Int32} {off : Int} (hp : pc + 3 = pc') (hdg : decode M.2.1 pc = .ok (.if_icmp .ge off, 3)) (ht : (pc : Int) + off = (tgt : Int)) (kt : y ≤ x → SW SR M d bc bs tgt lv st h n Post) (kf : ¬ y ≤ x → SW SR M d bc bs pc' lv st h n Post) : SW SR M d bc bs pc lv (.int y :: .int x :: st) h n Post := by
  subst hp
  intro G p l e R s m args below meth c A ad0 n0 Q hc hr he H locs cells slots ls ad hm hl hx hbc hbs
  exact lv_icmp_ge hc.1 hc.2.1 hdg ht (fun z => kt z G p l e R s m args below meth c A ad0 n0 Q hc hr he H locs cells slots ls ad hm (hl.stk (cl2 hl.2.2)) hx hbc hbs) (fun z => kf z G p l e R s m args below meth c A ad0 n0 Q hc hr he H locs cells slots ls ad hm (hl.stk (cl2 hl.2.2)) hx hbc hbs)
theorem sw_if_gt {x : Int32} {off : Int} (hp : pc + 3 = pc') (hdg : decode M.2.1 pc = .ok (.ifCond .gt off, 3)) (ht : (pc : Int) + off = (tgt : Int)) (kt : 0 < x → SW SR M d bc bs tgt lv st h n Post) (kf : ¬ 0 < x → SW SR M d bc bs pc' lv st h n Post) : SW SR M d bc bs pc lv (.int x :: st) h n Post := by
  subst hp
  intro G p l e R s m args below meth c A ad0 n0 Q hc hr he H locs cells slots ls ad hm hl hx hbc hbs
  exact lv_if_gt hc.1 hc.2.1 hdg ht (fun z => kt z G p l e R s m args below meth c A ad0 n0 Q hc hr he H locs cells slots ls ad hm (hl.stk (cl1 hl.2.2)) hx hbc hbs) (fun z => kf z G p l e R s m args below meth c A ad0 n0 Q hc hr he H locs cells slots ls ad hm (hl.stk (cl1 hl.2.2)) hx hbc hbs)
theorem sw_icmp_gt {x y : Int32} {off : Int} (hp : pc + 3 = pc') (hdg : decode M.2.1 pc = .ok (.if_icmp .gt off, 3)) (ht : (pc : Int) + off = (tgt : Int)) (kt : y < x → SW SR M d bc bs tgt lv st h n Post) (kf : ¬ y < x → SW SR M d bc bs pc' lv st h n Post) : SW SR M d bc bs pc lv (.int y :: .int x :: st) h n Post := by
  subst hp
  intro G p l e R s m args below meth c A ad0 n0 Q hc hr he H locs cells slots ls ad hm hl hx hbc hbs
  exact lv_icmp_gt hc.1 hc.2.1 hdg ht (fun z => kt z G p l e R s m args below meth c A ad0 n0 Q hc hr he H locs cells slots ls ad hm (hl.stk (cl2 hl.2.2)) hx hbc hbs) (fun z => kf z G p l e R s m args below meth c A ad0 n0 Q hc hr he H locs cells slots ls ad hm (hl.stk (cl2 hl.2.2)) hx hbc hbs)
theorem sw_if_le {x : Int32} {off : Int} (hp : pc + 3 = pc') (hdg : decode M.2.1 pc = .ok (.ifCond .le off, 3)) (ht : (pc : Int) + off = (tgt : Int)) (kt : x ≤ 0 → SW SR M d bc bs tgt lv st h n Post) (kf : ¬ x ≤ 0 → SW SR M d bc bs pc' lv st h n Post) : SW SR M d bc bs pc lv (.int x :: st) h n Post := by
  subst hp
  intro G p l e R s m args below meth c A ad0 n0 Q hc hr he H locs cells slots ls ad hm hl hx hbc hbs
  exact lv_if_le hc.1 hc.2.1 hdg ht (fun z => kt z G p l e R s m args below meth c A ad0 n0 Q hc hr he H locs cells slots ls ad hm (hl.stk (cl1 hl.2.2)) hx hbc hbs) (fun z => kf z G p l e R s m args below meth c A ad0 n0 Q hc hr he H locs cells slots ls ad hm (hl.stk (cl1 hl.2.2)) hx hbc hbs)
theorem sw_icmp_le {x y : Int32} {off : Int} (hp : pc + 3 = pc') (hdg : decode M.2.1 pc = .ok (.if_icmp .le off, 3)) (ht : (pc : Int) + off = (tgt : Int)) (kt : x ≤ y → SW SR M d bc bs tgt lv st h n Post) (kf : ¬ x ≤ y → SW SR M d bc bs pc' lv st h n Post) : SW SR M d bc bs pc lv (.int y :: .int x :: st) h n Post := by
  subst hp
  intro G p l e R s m args below meth c A ad0 n0 Q hc hr he H locs cells slots ls ad hm hl hx hbc hbs
  exact lv_icmp_le hc.1 hc.2.1 hdg ht (fun z => kt z G p l e R s m args below meth c A ad0 n0 Q hc hr he H locs cells slots ls ad hm (hl.stk (cl2 hl.2.2)) hx hbc hbs) (fun z => kf z G p l e R s m args below meth c A ad0 n0 Q hc hr he H locs cells slots ls ad hm (hl.stk (cl2 hl.2.2)) hx hbc hbs)
theorem sw_goto {off : Int} (hdg : decode M.2.1 pc = .ok (.goto off, 3)) (ht : (pc : Int) + off = (tgt : Int)) (k : SW SR M d bc bs tgt lv st h n Post) : SW SR M d bc bs pc lv st h n Post := by
  intro G p l e R s m args below meth c A ad0 n0 Q hc hr he H locs cells slots ls ad hm hl hx hbc hbs
  exact lv_goto hc.1 hc.2.1 hdg ht (k G p l e R s m args below meth c A ad0 n0 Q hc hr he H locs cells slots ls ad hm hl hx hbc hbs)
theorem sw_tableOut {dflt lo hi : Int} {offs : Array Int} {len : Nat} {x : Int32} (hdg : decode M.2.1 pc = .ok (.tableswitch dflt lo hi offs, len)) (hz : x.toInt < lo ∨ hi < x.toInt) (ht : (pc : Int) + dflt = (tgt : Int)) (k : SW SR M d bc bs tgt lv st h n Post) : SW SR M d bc bs pc lv (.int x :: st) h n Post := by
  intro G p l e R s m args below meth c A ad0 n0 Q hc hr he H locs cells slots ls ad hm hl hx hbc hbs
  exact lv_tableOut hc.1 hc.2.1 hdg hz ht (k G p l e R s m args below meth c A ad0 n0 Q hc hr he H locs cells slots ls ad hm (hl.stk (cl1 hl.2.2)) hx hbc hbs)
theorem sw_tableIn {dflt lo hi : Int} {offs : Array Int} {len : Nat} {x : Int32} {off : Int} (hdg : decode M.2.1 pc = .ok (.tableswitch dflt lo hi offs, len)) (h1 : ¬ x.toInt < lo) (h2 : ¬ hi < x.toInt) (ho : offs[(x.toInt - lo).toNat]? = some off) (ht : (pc : Int) + off = (tgt : Int)) (k : SW SR M d bc bs tgt lv st h n Post) : SW SR M d bc bs pc lv (.int x :: st) h n Post := by
  intro G p l e R s m args below meth c A ad0 n0 Q hc hr he H locs cells slots ls ad hm hl hx hbc hbs
  exact lv_tableIn hc.1 hc.2.1 hdg h1 h2 ho ht (k G p l e R s m args below meth c A ad0 n0 Q hc hr he H locs cells slots ls ad hm (hl.stk (cl1 hl.2.2)) hx hbc hbs)
theorem sw_ifnull {x : Nat} {off : Int} (hp : pc + 3 = pc') (hdg : decode M.2.1 pc = .ok (.ifnull off, 3)) (k : SW SR M d bc bs pc' lv st h n Post) : SW SR M d bc bs pc lv (.ref x :: st) h n Post := by
  subst hp
  intro G p l e R s m args below meth c A ad0 n0 Q hc hr he H locs cells slots ls ad hm hl hx hbc hbs
  exact lv_ifnull hc.1 hc.2.1 hdg (k G p l e R s m args below meth c A ad0 n0 Q hc hr he H locs cells slots ls ad hm (hl.stk (cl1 hl.2.2)) hx hbc hbs)
theorem sw_ifnonnullN  {off : Int} (hp : pc + 3 = pc') (hdg : decode M.2.1 pc = .ok (.ifnonnull off, 3)) (k : SW SR M d bc bs pc' lv st h n Post) : SW SR M d bc bs pc lv (.null :: st) h n Post := by
  subst hp
  intro G p l e R s m args below meth c A ad0 n0 Q hc hr he H locs cells slots ls ad hm hl hx hbc hbs
  exact lv_ifnonnullN hc.1 hc.2.1 hdg (k G p l e R s m args below meth c A ad0 n0 Q hc hr he H locs cells slots ls ad hm (hl.stk (cl1 hl.2.2)) hx hbc hbs)
theorem sw_ifnonnull {x : Nat} {off : Int} (hdg : decode M.2.1 pc = .ok (.ifnonnull off, 3)) (ht : (pc : Int) + off = (tgt : Int)) (k : SW SR M d bc bs tgt lv st h n Post) : SW SR M d bc bs pc lv (.ref x :: st) h n Post := by
  intro G p l e R s m args below meth c A ad0 n0 Q hc hr he H locs cells slots ls ad hm hl hx hbc hbs
  exact lv_ifnonnull hc.1 hc.2.1 hdg ht (k G p l e R s m args below meth c A ad0 n0 Q hc hr he H locs cells slots ls ad hm (hl.stk (cl1 hl.2.2)) hx hbc hbs)
theorem sw_ifnullN  {off : Int} (hdg : decode M.2.1 pc = .ok (.ifnull off, 3)) (ht : (pc : Int) + off = (tgt : Int)) (k : SW SR M d bc bs tgt lv st h n Post) : SW SR M d bc bs pc lv (.null :: st) h n Post := by
  intro G p l e R s m args below meth c A ad0 n0 Q hc hr he H locs cells slots ls ad hm hl hx hbc hbs
  exact lv_ifnullN hc.1 hc.2.1 hdg ht (k G p l e R s m args below meth c A ad0 n0 Q hc hr he H locs cells slots ls ad hm (hl.stk (cl1 hl.2.2)) hx hbc hbs)
theorem sw_ldc2 {index : Nat} {v : Int64} (hp : pc + 3 = pc') (hdg : decode M.2.1 pc = .ok (.ldc2_w index, 3)) (hw : Cond.constantLong M.1.cls index v ∈ GT) (k : SW SR M d bc bs pc' lv (.long v :: st) h n Post) : SW SR M d bc bs pc lv st h n Post := by
  subst hp
  intro G p l e R s m args below meth c A ad0 n0 Q hc hr he H locs cells slots ls ad hm hl hx hbc hbs
  exact lv_ldc2 hc.1 hc.2.1 hc.2.2.2.2.1 (hc.2.2.2.2.2.1 _ hw) hdg (k G p l e R s m args below meth c A ad0 n0 Q hc hr he H locs cells slots ls ad hm (hl.stk (clc hl.2.2 clV_long)) hx hbc hbs)
theorem sw_ldci {index : Nat} {v : Int32} (hp : pc + 2 = pc') (hdg : decode M.2.1 pc = .ok (.ldc index, 2)) (hw : Cond.constant M.1.cls index v ∈ GT) (k : SW SR M d bc bs pc' lv (.int v :: st) h n Post) : SW SR M d bc bs pc lv st h n Post := by
  subst hp
  intro G p l e R s m args below meth c A ad0 n0 Q hc hr he H locs cells slots ls ad hm hl hx hbc hbs
  exact lv_ldc hc.1 hc.2.1 hc.2.2.2.2.1 (hc.2.2.2.2.2.1 _ hw) hdg (k G p l e R s m args below meth c A ad0 n0 Q hc hr he H locs cells slots ls ad hm (hl.stk (clc hl.2.2 clV_int)) hx hbc hbs)
theorem sw_ldciw {index : Nat} {v : Int32} (hp : pc + 3 = pc') (hdg : decode M.2.1 pc = .ok (.ldc_w index, 3)) (hw : Cond.constant M.1.cls index v ∈ GT) (k : SW SR M d bc bs pc' lv (.int v :: st) h n Post) : SW SR M d bc bs pc lv st h n Post := by
  subst hp
  intro G p l e R s m args below meth c A ad0 n0 Q hc hr he H locs cells slots ls ad hm hl hx hbc hbs
  exact lv_ldcw hc.1 hc.2.1 hc.2.2.2.2.1 (hc.2.2.2.2.2.1 _ hw) hdg (k G p l e R s m args below meth c A ad0 n0 Q hc hr he H locs cells slots ls ad hm (hl.stk (clc hl.2.2 clV_int)) hx hbc hbs)
theorem sw_ldcs {index i : Nat} {tx : String} (hp : pc + 2 = pc') (hdg : decode M.2.1 pc = .ok (.ldc index, 2)) (hw : (M.1.cls, index, tx, i) ∈ SR) (hi : i < nC) (k : SW SR M d bc bs pc' lv (.ref i :: st) h n Post) : SW SR M d bc bs pc lv st h n Post := by
  subst hp
  intro G p l e R s m args below meth c A ad0 n0 Q hc hr he H locs cells slots ls ad hm hl hx hbc hbs
  have hz := hc.2.2.2.2.2.2.2.2.2.2.2.2.1 _ hw
  rw [← (hm.2.2.2.2.2 i hi).2.1] at hz
  exact va_ldcS hc.1 hc.2.1 hc.2.2.2.2.1 hz hdg (k G p l e R s m args below meth c A ad0 n0 Q hc hr he H locs cells slots ls ad hm (hl.stk (clc hl.2.2 (fun j hj => by cases hj; exact Nat.lt_of_lt_of_le hi hm.lt))) hx hbc hbs)
theorem sw_ret {v : Option Value} (hr9 : RetAt M pc v) (hP : Post (.inl v) h n) : SW SR M d bc bs pc lv v.toList h n Post := by
  intro G p l e R s m args below meth c A ad0 n0 Q hc hr he H locs cells slots ls ad hm hl hx hbc hbs
  have h9 := he.1 H locs cells slots ls ad h n v pc hm hx (fun v' e => hl.2.2 v' (by rw [e]; exact List.mem_cons_self)) hP (by omega) (by omega) hr9
  cases v <;> exact h9
theorem sw_conseq {Post' : ARes → AH → Nat → Prop} (k : SW SR M d bc bs pc lv st h n Post') (hPP : ∀ r h n, Post' r h n → Post r h n) : SW SR M d bc bs pc lv st h n Post := by
  intro G p l e R s m args below meth c A ad0 n0 Q hc hr he H locs cells slots ls ad hm hl hx hbc hbs
  exact k G p l e R s m args below meth c A ad0 n0 Q hc hr ⟨fun H locs cells slots ls ad h n v pc a1 a2 a3 a4 => he.1 H locs cells slots ls ad h n v pc a1 a2 a3 (hPP _ _ _ a4), fun H locs ad h n E a1 a2 a3 => he.2 H locs ad h n E a1 a2 (hPP _ _ _ a3)⟩ H locs cells slots ls ad hm hl hx hbc hbs
/-- the constants are what they are -/
theorem sw_known (k : (nC ≤ n ∧ (∀ i, nC ≤ i → i < n → clE n (h i)) ∧ (∀ v ∈ st, clV n v) ∧ ∀ q ∈ lv, clV n q.2) → SW SR M d bc bs pc lv st h n Post) : SW SR M d bc bs pc lv st h n Post := by
  intro G p l e R s m args below meth c A ad0 n0 Q hc hr he H locs cells slots ls ad hm hl hx hbc hbs
  exact k ⟨hm.lt, hm.2.2.2.2.1, hl.2.2, hl.2.1⟩ G p l e R s m args below meth c A ad0 n0 Q hc hr he H locs cells slots ls ad hm hl hx hbc hbs
theorem sw_bud {bc' bs' : Nat} (k : SW SR M d bc' bs' pc lv st h n Post) (h1 : bc' ≤ bc) (h2 : bs' ≤ bs) : SW SR M d bc bs pc lv st h n Post := by
  intro G p l e R s m args below meth c A ad0 n0 Q hc hr he H locs cells slots ls ad hm hl hx hbc hbs
  exact k G p l e R s m args below meth c A ad0 n0 Q hc hr he H locs cells slots ls ad hm hl hx (by omega) (by omega)
theorem sw_loc {lv' : List (Nat × Value)} (k : SW SR M d bc bs pc lv' st h n Post) (hs : ∀ q ∈ lv', q ∈ lv) : SW SR M d bc bs pc lv st h n Post := by
  intro G p l e R s m args below meth c A ad0 n0 Q hc hr he H locs cells slots ls ad hm hl hx hbc hbs
  exact k G p l e R s m args below meth c A ad0 n0 Q hc hr he H locs cells slots ls ad hm ⟨⟨hl.1.1, hl.1.2.1, fun q hq => by
    obtain ⟨z, hz, rfl⟩ := List.mem_map.mp hq
    exact hl.1.2.2 _ (List.mem_map.mpr ⟨z, hs z hz, rfl⟩)⟩, fun q hq => hl.2.1 q (hs q hq), hl.2.2⟩ hx hbc hbs
end
end
section
/-! rules for fields, arrays, statics, new things -/
theorem tysAt {cA : Nat → ClassId} {t : Nat} (h : t < 6) : (tysOf cA)[t]? = some (cA t, aTy t) := by
  match t, h with
  | 0, _ => rfl
  | 1, _ => rfl
  | 2, _ => rfl
  | 3, _ => rfl
  | 4, _ => rfl
  | 5, _ => rfl
theorem ws_in0 : ∀ w ∈ u_ws RJ0 TJ0 4, w ∈ GT := by decide +kernel
theorem ws_in1 : ∀ w ∈ u_ws RJ4 TJ4 4, w ∈ GT := by decide +kernel
theorem ws_in2 : ∀ w ∈ u_ws RX1 TX1 5, w ∈ GT := by decide +kernel
theorem ws_in3 : ∀ w ∈ u_ws RX2 TX2 9, w ∈ GT := by decide +kernel
theorem ws_in4 : ∀ w ∈ u_ws RX3 TX3 7, w ∈ GT := by decide +kernel
theorem ws_in5 : ∀ w ∈ u_ws RX4 TX4 2, w ∈ GT := by decide +kernel
theorem ws_in6 : ∀ w ∈ u_ws RX5 TX5 14, w ∈ GT := by decide +kernel
def FTy (ci : Nat) : Nat → FieldType := match ci with
  | 0 => tyJ0
  | 1 => tyJ4
  | 2 => tyX1
  | 3 => tyX2
  | 4 => tyX3
  | 5 => tyX4
  | _ => tyX5
theorem cls_ws {ci : Nat} (h : ci < 7) : ∀ w ∈ u_ws (CN ci) (FT ci) (FN ci), w ∈ GT := by
  match ci, h with
  | 0, _ => exact ws_in0
  | 1, _ => exact ws_in1
  | 2, _ => exact ws_in2
  | 3, _ => exact ws_in3
  | 4, _ => exact ws_in4
  | 5, _ => exact ws_in5
  | 6, _ => exact ws_in6
theorem cls_ty {ci : Nat} (h : ci < 7) : ∀ k, k < FN ci → parseFieldDescriptor (FT ci k).2.2.1 = some (FTy ci k) := by
  match ci, h with
  | 0, _ => exact tyJ0_ok
  | 1, _ => exact tyJ4_ok
  | 2, _ => exact tyX1_ok
  | 3, _ => exact tyX2_ok
  | 4, _ => exact tyX3_ok
  | 5, _ => exact tyX4_ok
  | 6, _ => exact tyX5_ok
theorem cls_nm {ci : Nat} (h : ci < 7) : ∀ a, a < FN ci → ∀ b, b < FN ci → a ≠ b → (FT ci a).2.1 ≠ (FT ci b).2.1 := by
  match ci, h with
  | 0, _ => exact nmJ0
  | 1, _ => exact nmJ4
  | 2, _ => exact nmX1
  | 3, _ => exact nmX2
  | 4, _ => exact nmX3
  | 5, _ => exact nmX4
  | 6, _ => exact nmX5
theorem HM.put {G : GD} {A : Nat → Prop} {H0 : Heap} {h : AH} {n : Nat} {H : Heap} {locs : List Loc} {ad : Nat → Nat} (hm : HM G A H0 h n H locs ad) {i : Nat} {e : va_E} {H1 : Heap} {locs1 : List Loc} (h1 : nC ≤ i) (h2 : i < n) (hcl : clE n e)
    (hP : va_P G.1 vwCl ((wsH G ad h n).set (i - nC) (ad i, emE G.2.1 ad e)) H1) (hD : va_D A ((wsH G ad h n).set (i - nC) (ad i, emE G.2.1 ad e))) (hS : va_S A H0 H1 locs1) : HM G A H0 (up h i e) n H1 locs1 ad := by
  rw [wsH_set h1 h2] at hP hD
  refine ⟨hP, hD, hS, hm.2.2.2.1, fun j a b => ?_, fun j a => ?_⟩
  · by_cases q : j = i
    · rw [q, up_s]; exact hcl
    · rw [up_n q]; exact hm.2.2.2.2.1 j a b
  · rw [up_n (by omega)]
    exact hm.2.2.2.2.2 j a
theorem HM.new {G : GD} {A : Nat → Prop} {H0 : Heap} {h : AH} {n : Nat} {H : Heap} {locs : List Loc} {ad : Nat → Nat} (hm : HM G A H0 h n H locs ad) {q : Nat} {e : va_E} {H1 : Heap} {locs1 : List Loc} (hcl : clE n e)
    (hP : va_P G.1 vwCl (wsH G ad h n ++ [(q, emE G.2.1 ad e)]) H1) (hD : va_D A (wsH G ad h n ++ [(q, emE G.2.1 ad e)])) (hS : va_S A H0 H1 locs1) : HM G A H0 (up h n e) (n + 1) H1 locs1 (up ad n q) := by
  rw [wsH_push hm.lt hm.2.2.2.2.1 hcl] at hP hD
  have h0 := hm.lt
  refine ⟨hP, hD, hS, by omega, fun j a b => ?_, fun j a => ?_⟩
  · by_cases z : j = n
    · rw [z, up_s]; exact clE_mono hcl (by omega)
    · rw [up_n z]; exact clE_mono (hm.2.2.2.2.1 j a (by omega)) (by omega)
  · rw [up_n (by omega), up_n (by omega)]
    exact hm.2.2.2.2.2 j a
theorem Ext.new {ad0 ad : Nat → Nat} {n0 n q : Nat} (h : Ext ad0 ad n0 n) : Ext ad0 (up ad n q) n0 (n + 1) := ⟨by have := h.1; omega, fun i hi => by rw [up_n (by have := h.1; omega)]; exact h.2 i hi⟩
theorem LM.new {ad : Nat → Nat} {nL n q : Nat} {lv : List (Nat × Value)} {st : List Value} {ls : Array Slot} (hl : LM ad nL n lv st ls) : LM (up ad n q) nL (n + 1) lv st ls := by
  have e0 : ∀ i, i < n → up ad n q i = ad i := fun i hi => up_n (by omega)
  refine ⟨?_, fun z hz => clV_mono (hl.2.1 z hz) (by omega), fun z hz => clV_mono (hl.2.2 z hz) (by omega)⟩
  have e1 : lv.map (fun z => (z.1, em (up ad n q) z.2)) = lv.map (fun z => (z.1, em ad z.2)) := List.map_congr_left (fun z hz => by rw [em_eq (hl.2.1 z hz) e0])
  rw [e1]
  exact hl.1
theorem em_new {ad : Nat → Nat} {n q : Nat} {st : List Value} (h : ∀ v ∈ st, clV n v) : st.map (em (up ad n q)) = st.map (em ad) := List.map_congr_left (fun z hz => em_eq (h z hz) (fun i hi => up_n (by omega)))
theorem HM.cl {G : GD} {A : Nat → Prop} {H0 : Heap} {h : AH} {n : Nat} {H : Heap} {locs : List Loc} {ad : Nat → Nat} (hm : HM G A H0 h n H locs ad) {i : Nat} (hi : i < n) : clE n (h i) := by
  by_cases q : nC ≤ i
  · exact hm.2.2.2.2.1 i q hi
  · exact clE_mono (hm.2.2.2.2.2 i (by omega)).2.2 hm.lt
section
variable {SR : SRT} {M : MI} {d bc bs pc pc' tgt n : Nat} {lv : List (Nat × Value)} {st : List Value} {h : AH} {Post : ARes → AH → Nat → Prop}
theorem sw_getf {ci k idx i : Nat} {fs : List Value} {v : Value} (hp : pc + 3 = pc') (hdg : decode M.2.1 pc = .ok (.getfield idx, 3)) (hk : k < FN ci) (hw : Cond.fieldLink M.1.cls idx (FT ci k).1 (FT ci k).2.1 (FT ci k).2.2.1 ∈ GT) (hh : h i = .inr (ci, fs)) (hv : fs[k]? = some v)
    (kk : SW SR M d bc bs pc' lv (v :: st) h n Post) : SW SR M d bc bs pc lv (.ref i :: st) h n Post := by
  subst hp
  intro G p l e R s m args below meth c A ad0 n0 Q hc hr he H locs cells slots ls ad hm hl hx hbc hbs
  have hi : i < n := hl.2.2 _ List.mem_cons_self i rfl
  have hcl : clV n v := by
    have h1 := hm.cl hi
    rw [hh] at h1
    exact h1 v (List.mem_of_getElem? hv)
  have hk9 := kk G p l e R s m args below meth c A ad0 n0 Q hc hr he H locs cells slots ls ad hm (hl.stk (clc (cl1 hl.2.2) hcl)) hx hbc hbs
  obtain ⟨hx1, hb1, hr1, hml1, hown1, hts1, hlk1, htb1, hlt1, hin1, hK1, hN1, hSR1, hAO1, hC1, hA1⟩ := id hc
  by_cases q : nC ≤ i
  · have e0 : (wsH G ad h n)[i - nC]? = some (ad i, .inr (ci, fs.map (em ad))) := by
      have h9 := wsH_get (G := G) (ad := ad) (h := h) q hi
      rw [hh] at h9
      exact h9
    have hci : ci < 7 := by
      obtain ⟨r, hr9, -⟩ := hm.1 _ _ e0
      exact vwCl_lt hr9
    exact va_get (v := em ad v) hx1 hb1 hts1 (cls_ws hci) hown1 hK1 hm.1 _ e0 (vwCl_at hci) k hk (hts1 _ hw) (fun _ z => z) (by rw [List.getElem?_map, hv]; rfl) hdg hk9
  · have q1 : i < nC := by omega
    obtain ⟨c1, c2, -⟩ := hm.2.2.2.2.2 i q1
    obtain ⟨-, c4⟩ := hC1.1 i ci fs q1 (by rw [← c1]; exact hh)
    have c5 := c4 k v hv
    have e3 : em G.2.2.1 v = em ad v := by
      refine (em_eq (n := nC) ?_ (fun j hj => ((hm.2.2.2.2.2 j hj).2.1).symm))
      have h1 := (hm.2.2.2.2.2 i q1).2.2
      rw [hh] at h1
      exact h1 v (List.mem_of_getElem? hv)
    rw [e3, ← c2] at c5
    exact vk_getf hx1 hb1 c5 hm.2.2.1 hown1 (hts1 _ hw) (fun _ z => z) hdg hk9
theorem em_narrow {ad : Nat → Nat} {ty : FieldType} {v : Value} (hn : narrow ty v = v) : narrow ty (em ad v) = em ad v := by
  cases v <;> first | exact hn | (cases ty <;> rfl)
theorem em_fits {ad : Nat → Nat} {ty : FieldType} {v : Value} (hn : fits ty v = true) : fits ty (em ad v) = true := by
  cases v <;> first | exact hn | (cases ty <;> first | exact hn | rfl)
theorem clE_set {n ci k : Nat} {fs : List Value} {v : Value} (h : clE n (.inr (ci, fs))) (g : clV n v) : clE n (.inr (ci, fs.set k v)) := by
  intro w hw
  rcases List.mem_or_eq_of_mem_set hw with h1 | h1
  · exact h w h1
  · rw [h1]; exact g
theorem sw_putf {ci k idx i : Nat} {fs : List Value} {v : Value} (hp : pc + 3 = pc') (hdg : decode M.2.1 pc = .ok (.putfield idx, 3)) (hci : ci < 7) (hk : k < FN ci) (hw : Cond.fieldLink M.1.cls idx (FT ci k).1 (FT ci k).2.1 (FT ci k).2.2.1 ∈ GT) (hfin : (FT ci k).2.2.2 = false) (hh : h i = .inr (ci, fs)) (hi0 : nC ≤ i) (hlen : k < fs.length) (hn : narrow (FTy ci k) v = v) (hfit : fits (FTy ci k) v = true)
    (kk : SW SR M d bc bs pc' lv st (up h i (.inr (ci, fs.set k v))) n Post) : SW SR M d bc bs pc lv (v :: .ref i :: st) h n Post := by
  subst hp
  intro G p l e R s m args below meth c A ad0 n0 Q hc hr he H locs cells slots ls ad hm hl hx hbc hbs
  have hi : i < n := hl.2.2 _ (List.mem_cons_of_mem _ List.mem_cons_self) i rfl
  have hcl : clE n (.inr (ci, fs.set k v)) := clE_set (by have h1 := hm.cl hi; rw [hh] at h1; exact h1) (hl.2.2 _ List.mem_cons_self)
  obtain ⟨hx1, hb1, hr1, hml1, hown1, hts1, hlk1, htb1, hlt1, hin1, hK1, hN1, hSR1, hAO1, hC1, hA1⟩ := id hc
  have e0 : (wsH G ad h n)[i - nC]? = some (ad i, .inr (ci, fs.map (em ad))) := by
    have h9 := wsH_get (G := G) (ad := ad) (h := h) hi0 hi
    rw [hh] at h9
    exact h9
  refine va_put (v := em ad v) hx1 hb1 hts1 (cls_ws hci) (FTy ci) (cls_ty hci) (cls_nm hci) hown1 hK1 hm.1 hm.2.1 hm.2.2.1 _ e0 (vwCl_at hci) k hk (hts1 _ hw) (fun _ z => z) hfin (cls_ty hci k hk) (em_narrow hn) (em_fits hfit) (by rw [List.length_map]; exact hlen) hdg (fun H1 locs1 hP hD hS => ?_)
  rw [← List.map_set] at hP hD
  exact kk G p l e R s m args below meth c A ad0 n0 Q hc hr he H1 locs1 cells slots ls ad (hm.put hi0 hi hcl hP hD hS) (hl.stk (cl2 hl.2.2)) hx hbc hbs
theorem sw_putfF {ci k idx i : Nat} {fs : List Value} {v : Value} (hp : pc + 3 = pc') (hdg : decode M.2.1 pc = .ok (.putfield idx, 3)) (hci : ci < 7) (hk : k < FN ci) (hw : Cond.fieldLink M.1.cls idx (FT ci k).1 (FT ci k).2.1 (FT ci k).2.2.1 ∈ GT) (hfin : (FT ci k).2.2.2 = true) (hini : M.1.name = "<init>") (hdecl : (FT ci k).1 = M.1.cls) (hh : h i = .inr (ci, fs)) (hi0 : nC ≤ i) (hlen : k < fs.length) (hn : narrow (FTy ci k) v = v) (hfit : fits (FTy ci k) v = true)
    (kk : SW SR M d bc bs pc' lv st (up h i (.inr (ci, fs.set k v))) n Post) : SW SR M d bc bs pc lv (v :: .ref i :: st) h n Post := by
  subst hp
  intro G p l e R s m args below meth c A ad0 n0 Q hc hr he H locs cells slots ls ad hm hl hx hbc hbs
  have hi : i < n := hl.2.2 _ (List.mem_cons_of_mem _ List.mem_cons_self) i rfl
  have hcl : clE n (.inr (ci, fs.set k v)) := clE_set (by have h1 := hm.cl hi; rw [hh] at h1; exact h1) (hl.2.2 _ List.mem_cons_self)
  obtain ⟨hx1, hb1, hr1, hml1, hown1, hts1, hlk1, htb1, hlt1, hin1, hK1, hN1, hSR1, hAO1, hC1, hA1⟩ := id hc
  have e0 : (wsH G ad h n)[i - nC]? = some (ad i, .inr (ci, fs.map (em ad))) := by
    have h9 := wsH_get (G := G) (ad := ad) (h := h) hi0 hi
    rw [hh] at h9
    exact h9
  refine va_putF (v := em ad v) hx1 hb1 hts1 (cls_ws hci) (FTy ci) (cls_ty hci) (cls_nm hci) hown1 hK1 hm.1 hm.2.1 hm.2.2.1 _ e0 (vwCl_at hci) k hk (hts1 _ hw) (fun _ z => z) hfin (hin1 hini) hdecl (cls_ty hci k hk) (em_narrow hn) (em_fits hfit) (by rw [List.length_map]; exact hlen) hdg (fun H1 locs1 hP hD hS => ?_)
  rw [← List.map_set] at hP hD
  exact kk G p l e R s m args below meth c A ad0 n0 Q hc hr he H1 locs1 cells slots ls ad (hm.put hi0 hi hcl hP hD hS) (hl.stk (cl2 hl.2.2)) hx hbc hbs
/-- nest mates' fields -/
theorem sw_getN {ci k idx i : Nat} {fs : List Value} {v : Value} {host : String} (hp : pc + 3 = pc') (hdg : decode M.2.1 pc = .ok (.getfield idx, 3)) (hk : k < FN ci) (hw : Cond.fieldLinkNest M.1.cls idx (FT ci k).1 (FT ci k).2.1 (FT ci k).2.2.1 host ∈ NW) (hh : h i = .inr (ci, fs)) (hi0 : nC ≤ i) (hv : fs[k]? = some v)
    (kk : SW SR M d bc bs pc' lv (v :: st) h n Post) : SW SR M d bc bs pc lv (.ref i :: st) h n Post := by
  subst hp
  intro G p l e R s m args below meth c A ad0 n0 Q hc hr he H locs cells slots ls ad hm hl hx hbc hbs
  have hi : i < n := hl.2.2 _ List.mem_cons_self i rfl
  have hcl : clV n v := by
    have h1 := hm.cl hi
    rw [hh] at h1
    exact h1 v (List.mem_of_getElem? hv)
  have hk9 := kk G p l e R s m args below meth c A ad0 n0 Q hc hr he H locs cells slots ls ad hm (hl.stk (clc (cl1 hl.2.2) hcl)) hx hbc hbs
  obtain ⟨hx1, hb1, hr1, hml1, hown1, hts1, hlk1, htb1, hlt1, hin1, hK1, hN1, hSR1, hAO1, hC1, hA1⟩ := id hc
  have e0 : (wsH G ad h n)[i - nC]? = some (ad i, .inr (ci, fs.map (em ad))) := by
    have h9 := wsH_get (G := G) (ad := ad) (h := h) hi0 hi
    rw [hh] at h9
    exact h9
  have hci : ci < 7 := by
    obtain ⟨r, hr9, -⟩ := hm.1 _ _ e0
    exact vwCl_lt hr9
  exact va_getN (v := em ad v) hx1 hb1 hts1 (cls_ws hci) hown1 hK1 hm.1 _ e0 (vwCl_at hci) k hk (va_Nw.use rfl (hN1 _ hw)) (fun _ z => z) (by rw [List.getElem?_map, hv]; rfl) hdg hk9
theorem sw_putN {ci k idx i : Nat} {fs : List Value} {v : Value} {host : String} (hp : pc + 3 = pc') (hdg : decode M.2.1 pc = .ok (.putfield idx, 3)) (hci : ci < 7) (hk : k < FN ci) (hw : Cond.fieldLinkNest M.1.cls idx (FT ci k).1 (FT ci k).2.1 (FT ci k).2.2.1 host ∈ NW) (hfin : (FT ci k).2.2.2 = false) (hh : h i = .inr (ci, fs)) (hi0 : nC ≤ i) (hlen : k < fs.length) (hn : narrow (FTy ci k) v = v) (hfit : fits (FTy ci k) v = true)
    (kk : SW SR M d bc bs pc' lv st (up h i (.inr (ci, fs.set k v))) n Post) : SW SR M d bc bs pc lv (v :: .ref i :: st) h n Post := by
  subst hp
  intro G p l e R s m args below meth c A ad0 n0 Q hc hr he H locs cells slots ls ad hm hl hx hbc hbs
  have hi : i < n := hl.2.2 _ (List.mem_cons_of_mem _ List.mem_cons_self) i rfl
  have hcl : clE n (.inr (ci, fs.set k v)) := clE_set (by have h1 := hm.cl hi; rw [hh] at h1; exact h1) (hl.2.2 _ List.mem_cons_self)
  obtain ⟨hx1, hb1, hr1, hml1, hown1, hts1, hlk1, htb1, hlt1, hin1, hK1, hN1, hSR1, hAO1, hC1, hA1⟩ := id hc
  have e0 : (wsH G ad h n)[i - nC]? = some (ad i, .inr (ci, fs.map (em ad))) := by
    have h9 := wsH_get (G := G) (ad := ad) (h := h) hi0 hi
    rw [hh] at h9
    exact h9
  refine va_putN (v := em ad v) hx1 hb1 hts1 (cls_ws hci) (FTy ci) (cls_ty hci) (cls_nm hci) hown1 hK1 hm.1 hm.2.1 hm.2.2.1 _ e0 (vwCl_at hci) k hk (va_Nw.use rfl (hN1 _ hw)) (fun _ z => z) hfin (cls_ty hci k hk) (em_narrow hn) (em_fits hfit) (by rw [List.length_map]; exact hlen) hdg (fun H1 locs1 hP hD hS => ?_)
  rw [← List.map_set] at hP hD
  exact kk G p l e R s m args below meth c A ad0 n0 Q hc hr he H1 locs1 cells slots ls ad (hm.put hi0 hi hcl hP hD hS) (hl.stk (cl2 hl.2.2)) hx hbc hbs
theorem ST_cl : ∀ q ∈ ST, clV nC q.2.2.2 := by
  intro q hq
  simp only [ST, List.mem_cons, List.not_mem_nil, or_false] at hq
  rcases hq with rfl | rfl | rfl | rfl | rfl | rfl | rfl | rfl <;> intro i hi <;> cases hi <;> decide
theorem sw_gets {idx : Nat} {C nm ds : String} {v : Value} (hp : pc + 3 = pc') (hdg : decode M.2.1 pc = .ok (.getstatic idx, 3)) (hq : (C, nm, ds, v) ∈ ST) (hw : Cond.fieldLink M.1.cls idx C nm ds ∈ GT)
    (kk : SW SR M d bc bs pc' lv (v :: st) h n Post) : SW SR M d bc bs pc lv st h n Post := by
  subst hp
  intro G p l e R s m args below meth c A ad0 n0 Q hc hr he H locs cells slots ls ad hm hl hx hbc hbs
  have hk9 := kk G p l e R s m args below meth c A ad0 n0 Q hc hr he H locs cells slots ls ad hm (hl.stk (clc hl.2.2 (clV_mono (ST_cl _ hq) hm.lt))) hx hbc hbs
  obtain ⟨hx1, hb1, hr1, hml1, hown1, hts1, hlk1, htb1, hlt1, hin1, hK1, hN1, hSR1, hAO1, hC1, hA1⟩ := id hc
  have e3 : em G.2.2.1 v = em ad v := em_eq (n := nC) (ST_cl _ hq) (fun j hj => ((hm.2.2.2.2.2 j hj).2.1).symm)
  have c5 := hC1.2.2.1 _ hq
  dsimp only at c5
  rw [e3] at c5
  exact va_gets hx1 hb1 c5 hm.2.2.1 hown1 (hts1 _ hw) (fun _ z => z) hdg hk9
end
end
section
/-! rules for arrays and new things -/
theorem clV_new {n : Nat} : clV (n + 1) (.ref n) := fun i hi => by
  cases hi
  exact Nat.lt_succ_self _
section
variable {SR : SRT} {M : MI} {d bc bs pc pc' tgt n : Nat} {lv : List (Nat × Value)} {st : List Value} {h : AH} {Post : ARes → AH → Nat → Prop}
theorem sw_iald {a j len : Nat} {f : Nat → Int32} {x : Int32} (hp : pc + 1 = pc') (hdg : decode M.2.1 pc = .ok (.iaload, 1)) (hh : h a = .inl (0, len, .inl f)) (hx9 : x = nI j) (hj : j < len) (hlen : len < 2 ^ 31)
    (kk : SW SR M d bc bs pc' lv (.int (f j) :: st) h n Post) : SW SR M d bc bs pc lv (.int x :: .ref a :: st) h n Post := by
  subst hp
  intro G p l e R s m args below meth c A ad0 n0 Q hc hr he H locs cells slots ls ad hm hl hx hbc hbs
  have hi : a < n := hl.2.2 _ (List.mem_cons_of_mem _ List.mem_cons_self) a rfl
  have hk9 := kk G p l e R s m args below meth c A ad0 n0 Q hc hr he H locs cells slots ls ad hm (hl.stk (clc (cl2 hl.2.2) clV_int)) hx hbc hbs
  obtain ⟨hx1, hb1, hr1, hml1, hown1, hts1, hlk1, htb1, hlt1, hin1, hK1, hN1, hSR1, hAO1, hC1, hA1⟩ := id hc
  subst hx9
  have hin9 : vp_in (nI j) len := vp_in_nI hj hlen
  have ec : (nI j).toNatClampNeg = j := nI_clamp (by omega)
  by_cases q : nC ≤ a
  · have e0 : (wsH G ad h n)[a - nC]? = some (ad a, .inl (G.2.1 0, len, .inl f)) := by
      have h9 := wsH_get (G := G) (ad := ad) (h := h) q hi
      rw [hh] at h9
      exact h9
    refine va_iald hx1 hb1 hK1 hm.1 _ 0 e0 (tysAt (by decide)) hin9 hdg ?_
    rw [ec]
    exact hk9
  · have q1 : a < nC := by omega
    obtain ⟨c1, c2, -⟩ := hm.2.2.2.2.2 a q1
    have c5 := hC1.2.1 a 0 len f q1 (by rw [← c1]; exact hh) (by decide)
    rw [← c2] at c5
    exact va_ti (v := .int (f j)) hx1 hb1 c5 hm.2.2.1 hin9 (by rw [ec]) hdg hk9
theorem sw_bald {a j len : Nat} {f : Nat → Int32} {x : Int32} (hp : pc + 1 = pc') (hdg : decode M.2.1 pc = .ok (.baload, 1)) (hh : h a = .inl (2, len, .inl f)) (hx9 : x = nI j) (hj : j < len) (hlen : len < 2 ^ 31)
    (kk : SW SR M d bc bs pc' lv (.int (f j) :: st) h n Post) : SW SR M d bc bs pc lv (.int x :: .ref a :: st) h n Post := by
  subst hp
  intro G p l e R s m args below meth c A ad0 n0 Q hc hr he H locs cells slots ls ad hm hl hx hbc hbs
  have hi : a < n := hl.2.2 _ (List.mem_cons_of_mem _ List.mem_cons_self) a rfl
  have hk9 := kk G p l e R s m args below meth c A ad0 n0 Q hc hr he H locs cells slots ls ad hm (hl.stk (clc (cl2 hl.2.2) clV_int)) hx hbc hbs
  obtain ⟨hx1, hb1, hr1, hml1, hown1, hts1, hlk1, htb1, hlt1, hin1, hK1, hN1, hSR1, hAO1, hC1, hA1⟩ := id hc
  subst hx9
  have hin9 : vp_in (nI j) len := vp_in_nI hj hlen
  have ec : (nI j).toNatClampNeg = j := nI_clamp (by omega)
  by_cases q : nC ≤ a
  · have e0 : (wsH G ad h n)[a - nC]? = some (ad a, .inl (G.2.1 2, len, .inl f)) := by
      have h9 := wsH_get (G := G) (ad := ad) (h := h) q hi
      rw [hh] at h9
      exact h9
    refine va_bald hx1 hb1 hK1 hm.1 _ 2 e0 (tysAt (by decide)) hin9 hdg ?_
    rw [ec]
    exact hk9
  · have q1 : a < nC := by omega
    obtain ⟨c1, c2, -⟩ := hm.2.2.2.2.2 a q1
    have c5 := hC1.2.1 a 2 len f q1 (by rw [← c1]; exact hh) (by decide)
    rw [← c2] at c5
    exact va_tb (v := .int (f j)) hx1 hb1 c5 hm.2.2.1 hin9 (by rw [ec]) hdg hk9
theorem sw_zald {a j len : Nat} {f : Nat → Int32} {x : Int32} (hp : pc + 1 = pc') (hdg : decode M.2.1 pc = .ok (.baload, 1)) (hh : h a = .inl (1, len, .inl f)) (hi0 : nC ≤ a) (hx9 : x = nI j) (hj : j < len) (hlen : len < 2 ^ 31)
    (kk : SW SR M d bc bs pc' lv (.int (f j) :: st) h n Post) : SW SR M d bc bs pc lv (.int x :: .ref a :: st) h n Post := by
  subst hp
  intro G p l e R s m args below meth c A ad0 n0 Q hc hr he H locs cells slots ls ad hm hl hx hbc hbs
  have hi : a < n := hl.2.2 _ (List.mem_cons_of_mem _ List.mem_cons_self) a rfl
  have hk9 := kk G p l e R s m args below meth c A ad0 n0 Q hc hr he H locs cells slots ls ad hm (hl.stk (clc (cl2 hl.2.2) clV_int)) hx hbc hbs
  obtain ⟨hx1, hb1, hr1, hml1, hown1, hts1, hlk1, htb1, hlt1, hin1, hK1, hN1, hSR1, hAO1, hC1, hA1⟩ := id hc
  subst hx9
  have ec : (nI j).toNatClampNeg = j := nI_clamp (by omega)
  have e0 : (wsH G ad h n)[a - nC]? = some (ad a, .inl (G.2.1 1, len, .inl f)) := by
    have h9 := wsH_get (G := G) (ad := ad) (h := h) hi0 hi
    rw [hh] at h9
    exact h9
  refine va_zald hx1 hb1 hK1 hm.1 _ 1 e0 (tysAt (by decide)) (vp_in_nI hj hlen) hdg ?_
  rw [ec]
  exact hk9
theorem sw_alen {a t len : Nat} {z : (Nat → Int32) ⊕ (Nat → Int64) ⊕ (Nat → UInt32) ⊕ (Nat → UInt64) ⊕ (Nat → Option Nat)} (hp : pc + 1 = pc') (hdg : decode M.2.1 pc = .ok (.arraylength, 1)) (hh : h a = .inl (t, len, z)) (ht : t < 6) (hz : nC ≤ a ∨ (t < 3 ∧ ∃ f, z = .inl f))
    (kk : SW SR M d bc bs pc' lv (.int (nI len) :: st) h n Post) : SW SR M d bc bs pc lv (.ref a :: st) h n Post := by
  subst hp
  intro G p l e R s m args below meth c A ad0 n0 Q hc hr he H locs cells slots ls ad hm hl hx hbc hbs
  have hi : a < n := hl.2.2 _ List.mem_cons_self a rfl
  have hk9 := kk G p l e R s m args below meth c A ad0 n0 Q hc hr he H locs cells slots ls ad hm (hl.stk (clc (cl1 hl.2.2) clV_int)) hx hbc hbs
  obtain ⟨hx1, hb1, hr1, hml1, hown1, hts1, hlk1, htb1, hlt1, hin1, hK1, hN1, hSR1, hAO1, hC1, hA1⟩ := id hc
  by_cases q : nC ≤ a
  · have h9 := wsH_get (G := G) (ad := ad) (h := h) q hi
    rw [hh] at h9
    obtain f | f | f | f | f := z
    · exact va_alen hx1 hb1 hK1 hm.1 _ t h9 (tysAt ht) rfl hdg hk9
    · exact va_alen hx1 hb1 hK1 hm.1 _ t h9 (tysAt ht) rfl hdg hk9
    · exact va_alen hx1 hb1 hK1 hm.1 _ t h9 (tysAt ht) rfl hdg hk9
    · exact va_alen hx1 hb1 hK1 hm.1 _ t h9 (tysAt ht) rfl hdg hk9
    · exact va_alen hx1 hb1 hK1 hm.1 _ t h9 (tysAt ht) rfl hdg hk9
  · have q1 : a < nC := by omega
    obtain ⟨h3, f, rfl⟩ := hz.resolve_left q
    obtain ⟨c1, c2, -⟩ := hm.2.2.2.2.2 a q1
    have c5 := hC1.2.1 a t len f q1 (by rw [← c1]; exact hh) h3
    rw [← c2] at c5
    exact va_tlen hx1 hb1 c5 hm.2.2.1 rfl hdg hk9
theorem sw_iast {a j len : Nat} {f : Nat → Int32} {x y : Int32} (hp : pc + 1 = pc') (hdg : decode M.2.1 pc = .ok (.iastore, 1)) (hh : h a = .inl (0, len, .inl f)) (hi0 : nC ≤ a) (hx9 : x = nI j) (hj : j < len) (hlen : len < 2 ^ 31)
    (kk : SW SR M d bc bs pc' lv st (up h a (.inl (0, len, .inl (up f j y)))) n Post) : SW SR M d bc bs pc lv (.int y :: .int x :: .ref a :: st) h n Post := by
  subst hp
  intro G p l e R s m args below meth c A ad0 n0 Q hc hr he H locs cells slots ls ad hm hl hx hbc hbs
  have hi : a < n := hl.2.2 _ (List.mem_cons_of_mem _ (List.mem_cons_of_mem _ List.mem_cons_self)) a rfl
  obtain ⟨hx1, hb1, hr1, hml1, hown1, hts1, hlk1, htb1, hlt1, hin1, hK1, hN1, hSR1, hAO1, hC1, hA1⟩ := id hc
  subst hx9
  have ec : (nI j).toNatClampNeg = j := nI_clamp (by omega)
  have e0 : (wsH G ad h n)[a - nC]? = some (ad a, .inl (G.2.1 0, len, .inl f)) := by
    have h9 := wsH_get (G := G) (ad := ad) (h := h) hi0 hi
    rw [hh] at h9
    exact h9
  refine va_iast hx1 hb1 hK1 hm.1 hm.2.1 hm.2.2.1 _ 0 e0 (tysAt (by decide)) (vp_in_nI hj hlen) hdg (fun H1 locs1 hP hD hS => ?_)
  rw [ec] at hP hD
  exact kk G p l e R s m args below meth c A ad0 n0 Q hc hr he H1 locs1 cells slots ls ad (hm.put (e := .inl (0, len, .inl (up f j y))) hi0 hi trivial hP hD hS) (hl.stk (cl1 (cl2 hl.2.2))) hx hbc hbs
theorem sw_bast {a j len : Nat} {f : Nat → Int32} {x y : Int32} (hp : pc + 1 = pc') (hdg : decode M.2.1 pc = .ok (.bastore, 1)) (hh : h a = .inl (2, len, .inl f)) (hi0 : nC ≤ a) (hx9 : x = nI j) (hj : j < len) (hlen : len < 2 ^ 31)
    (kk : SW SR M d bc bs pc' lv st (up h a (.inl (2, len, .inl (up f j (vp_nar .byte y))))) n Post) : SW SR M d bc bs pc lv (.int y :: .int x :: .ref a :: st) h n Post := by
  subst hp
  intro G p l e R s m args below meth c A ad0 n0 Q hc hr he H locs cells slots ls ad hm hl hx hbc hbs
  have hi : a < n := hl.2.2 _ (List.mem_cons_of_mem _ (List.mem_cons_of_mem _ List.mem_cons_self)) a rfl
  obtain ⟨hx1, hb1, hr1, hml1, hown1, hts1, hlk1, htb1, hlt1, hin1, hK1, hN1, hSR1, hAO1, hC1, hA1⟩ := id hc
  subst hx9
  have ec : (nI j).toNatClampNeg = j := nI_clamp (by omega)
  have e0 : (wsH G ad h n)[a - nC]? = some (ad a, .inl (G.2.1 2, len, .inl f)) := by
    have h9 := wsH_get (G := G) (ad := ad) (h := h) hi0 hi
    rw [hh] at h9
    exact h9
  refine va_bast hx1 hb1 hK1 hm.1 hm.2.1 hm.2.2.1 _ 2 e0 (tysAt (by decide)) (vp_in_nI hj hlen) hdg (fun H1 locs1 hP hD hS => ?_)
  rw [ec] at hP hD
  exact kk G p l e R s m args below meth c A ad0 n0 Q hc hr he H1 locs1 cells slots ls ad (hm.put (e := .inl (2, len, .inl (up f j (vp_nar .byte y)))) hi0 hi trivial hP hD hS) (hl.stk (cl1 (cl2 hl.2.2))) hx hbc hbs
theorem sw_zast {a j len : Nat} {f : Nat → Int32} {x y : Int32} (hp : pc + 1 = pc') (hdg : decode M.2.1 pc = .ok (.bastore, 1)) (hh : h a = .inl (1, len, .inl f)) (hi0 : nC ≤ a) (hx9 : x = nI j) (hj : j < len) (hlen : len < 2 ^ 31)
    (kk : SW SR M d bc bs pc' lv st (up h a (.inl (1, len, .inl (up f j (vp_nar .boolean y))))) n Post) : SW SR M d bc bs pc lv (.int y :: .int x :: .ref a :: st) h n Post := by
  subst hp
  intro G p l e R s m args below meth c A ad0 n0 Q hc hr he H locs cells slots ls ad hm hl hx hbc hbs
  have hi : a < n := hl.2.2 _ (List.mem_cons_of_mem _ (List.mem_cons_of_mem _ List.mem_cons_self)) a rfl
  obtain ⟨hx1, hb1, hr1, hml1, hown1, hts1, hlk1, htb1, hlt1, hin1, hK1, hN1, hSR1, hAO1, hC1, hA1⟩ := id hc
  subst hx9
  have ec : (nI j).toNatClampNeg = j := nI_clamp (by omega)
  have e0 : (wsH G ad h n)[a - nC]? = some (ad a, .inl (G.2.1 1, len, .inl f)) := by
    have h9 := wsH_get (G := G) (ad := ad) (h := h) hi0 hi
    rw [hh] at h9
    exact h9
  refine va_zast hx1 hb1 hK1 hm.1 hm.2.1 hm.2.2.1 _ 1 e0 (tysAt (by decide)) (vp_in_nI hj hlen) hdg (fun H1 locs1 hP hD hS => ?_)
  rw [ec] at hP hD
  exact kk G p l e R s m args below meth c A ad0 n0 Q hc hr he H1 locs1 cells slots ls ad (hm.put (e := .inl (1, len, .inl (up f j (vp_nar .boolean y)))) hi0 hi trivial hP hD hS) (hl.stk (cl1 (cl2 hl.2.2))) hx hbc hbs
/-- a place of an array of references: not null -/
theorem sw_aald {a j len t b : Nat} {g : Nat → Option Nat} {x : Int32} (hp : pc + 1 = pc') (hdg : decode M.2.1 pc = .ok (.aaload, 1)) (hh : h a = .inl (t, len, .inr (.inr (.inr (.inr g))))) (ht : 3 ≤ t ∧ t < 6) (hi0 : nC ≤ a) (hx9 : x = nI j) (hj : j < len) (hlen : len < 2 ^ 31) (hg : g j = some b)
    (kk : SW SR M d bc bs pc' lv (.ref b :: st) h n Post) : SW SR M d bc bs pc lv (.int x :: .ref a :: st) h n Post := by
  subst hp
  intro G p l e R s m args below meth c A ad0 n0 Q hc hr he H locs cells slots ls ad hm hl hx hbc hbs
  have hi : a < n := hl.2.2 _ (List.mem_cons_of_mem _ List.mem_cons_self) a rfl
  have hcl : clV n (.ref b) := by
    have h1 := hm.cl hi
    rw [hh] at h1
    intro i hi9
    cases hi9
    exact h1 j b hg
  have hk9 := kk G p l e R s m args below meth c A ad0 n0 Q hc hr he H locs cells slots ls ad hm (hl.stk (clc (cl2 hl.2.2) hcl)) hx hbc hbs
  obtain ⟨hx1, hb1, hr1, hml1, hown1, hts1, hlk1, htb1, hlt1, hin1, hK1, hN1, hSR1, hAO1, hC1, hA1⟩ := id hc
  subst hx9
  have ec : (nI j).toNatClampNeg = j := nI_clamp (by omega)
  have hin9 : vp_in (nI j) len := vp_in_nI hj hlen
  have e0 : (wsH G ad h n)[a - nC]? = some (ad a, .inl (G.2.1 t, len, .inr (.inr (.inr (.inr (fun j => (g j).map ad)))))) := by
    have h9 := wsH_get (G := G) (ad := ad) (h := h) hi0 hi
    rw [hh] at h9
    exact h9
  have hty : (aTy t).isReference = true := by
    obtain ⟨h3, h4⟩ := ht
    match t, h3, h4 with
    | 3, _, _ => rfl
    | 4, _, _ => rfl
    | 5, _, _ => rfl
  have hlt9 : (nI j).toNatClampNeg < len := by rw [ec]; exact hj
  exact W.aald (v := .ref (ad b)) (ty := aTy t) hx1 hb1 (hm.1 _ _ e0) ((hK1.2 t _ (tysAt ht.2)).1 len (fun j => va_rf ((g j).map ad))) hty (fun q => by cases q) (by show ¬ (nI j < 0 ∨ (arrV _ _ _).slots.size ≤ _); rw [arrV_size]; exact hin9) (by show (arrV _ _ _).slots[_]? = _; rw [arrV_read _ _ hlt9, ec]; show some (va_rf ((g j).map ad)) = _; rw [hg]; rfl) rfl rfl hdg hk9
theorem sw_aast {a j len t b ci : Nat} {g : Nat → Option Nat} {fs : List Value} {x : Int32} (hp : pc + 1 = pc') (hdg : decode M.2.1 pc = .ok (.aastore, 1)) (hh : h a = .inl (t, len, .inr (.inr (.inr (.inr g))))) (ht : t = 3 ∧ ci = 2 ∨ t = 4 ∧ ci = 3) (hi0 : nC ≤ a) (hx9 : x = nI j) (hj : j < len) (hlen : len < 2 ^ 31) (hb : h b = .inr (ci, fs)) (hb0 : nC ≤ b)
    (kk : SW SR M d bc bs pc' lv st (up h a (.inl (t, len, .inr (.inr (.inr (.inr (up g j (some b)))))))) n Post) : SW SR M d bc bs pc lv (.ref b :: .int x :: .ref a :: st) h n Post := by
  subst hp
  intro G p l e R s m args below meth c A ad0 n0 Q hc hr he H locs cells slots ls ad hm hl hx hbc hbs
  have hi : a < n := hl.2.2 _ (List.mem_cons_of_mem _ (List.mem_cons_of_mem _ List.mem_cons_self)) a rfl
  have hbn : b < n := hl.2.2 _ List.mem_cons_self b rfl
  obtain ⟨hx1, hb1, hr1, hml1, hown1, hts1, hlk1, htb1, hlt1, hin1, hK1, hN1, hSR1, hAO1, hC1, hA1⟩ := id hc
  subst hx9
  have ec : (nI j).toNatClampNeg = j := nI_clamp (by omega)
  have e0 : (wsH G ad h n)[a - nC]? = some (ad a, .inl (G.2.1 t, len, .inr (.inr (.inr (.inr (fun j => (g j).map ad)))))) := by
    have h9 := wsH_get (G := G) (ad := ad) (h := h) hi0 hi
    rw [hh] at h9
    exact h9
  have e1 : (wsH G ad h n)[b - nC]? = some (ad b, .inr (ci, fs.map (em ad))) := by
    have h9 := wsH_get (G := G) (ad := ad) (h := h) hb0 hbn
    rw [hb] at h9
    exact h9
  have e2 : va_up (fun j => (g j).map ad) j (some (ad b)) = fun i => (up g j (some b) i).map ad := by
    funext i
    by_cases q : i = j
    · subst q; rw [up_s]; exact if_pos rfl
    · rw [up_n q]; exact if_neg q
  have hcl : clE n (.inl (t, len, .inr (.inr (.inr (.inr (up g j (some b))))))) := by
    have h1 := hm.cl hi
    rw [hh] at h1
    intro i z hz
    by_cases q : i = j
    · subst q; rw [up_s] at hz; cases hz; exact hbn
    · rw [up_n q] at hz; exact h1 i z hz
  rcases ht with ⟨rfl, rfl⟩ | ⟨rfl, rfl⟩
  · refine va_astq (r := (RX1, TX1, 5)) hx1 hb1 hK1 hm.1 hm.2.1 hm.2.2.1 _ 3 _ 2 e0 (tysAt (by decide)) e1 rfl (vp_in_nI hj hlen) hdg (fun H1 locs1 hP hD hS => ?_)
    rw [ec, e2] at hP hD
    exact kk G p l e R s m args below meth c A ad0 n0 Q hc hr he H1 locs1 cells slots ls ad (hm.put (e := .inl (3, len, .inr (.inr (.inr (.inr (up g j (some b))))))) hi0 hi hcl hP hD hS) (hl.stk (cl1 (cl2 hl.2.2))) hx hbc hbs
  · refine va_astq (r := (RX2, TX2, 9)) hx1 hb1 hK1 hm.1 hm.2.1 hm.2.2.1 _ 4 _ 3 e0 (tysAt (by decide)) e1 rfl (vp_in_nI hj hlen) hdg (fun H1 locs1 hP hD hS => ?_)
    rw [ec, e2] at hP hD
    exact kk G p l e R s m args below meth c A ad0 n0 Q hc hr he H1 locs1 cells slots ls ad (hm.put (e := .inl (4, len, .inr (.inr (.inr (.inr (up g j (some b))))))) hi0 hi hcl hP hD hS) (hl.stk (cl1 (cl2 hl.2.2))) hx hbc hbs
/-- the default values of a class's fields -/
def dfs (ci : Nat) : List Value := (List.range (FN ci)).map (fun k => defaultValue (FTy ci k))
theorem dfs_ok {ci : Nat} : ∀ k, k < FN ci → defaultValue (FTy ci k) = vp_V (dfs ci) k := by
  intro k hk
  simp [vp_V, dfs, hk]
theorem dfs_cl {n ci : Nat} : clE n (.inr (ci, dfs ci)) := by
  intro v hv
  obtain ⟨k, -, rfl⟩ := List.mem_map.mp hv
  intro i hi
  cases hty : FTy ci k <;> rw [hty] at hi <;> cases hi
theorem dfs_em {ad : Nat → Nat} {ci : Nat} : (dfs ci).map (em ad) = dfs ci := by
  unfold dfs
  rw [List.map_map]
  apply List.map_congr_left
  intro k _
  show em ad (defaultValue (FTy ci k)) = _
  cases FTy ci k <;> rfl
theorem sw_new {ci idx : Nat} (hp : pc + 3 = pc') (hdg : decode M.2.1 pc = .ok (.new idx, 3)) (hci : ci < 7) (hw1 : Cond.classLink M.1.cls idx (CN ci) ∈ GT) (hw2 : Cond.instantiable (CN ci) (FN ci) ∈ GT) (hw3 : Cond.initialized (CN ci) ∈ GT) (h1 : 1 ≤ bc) (h2 : FN ci ≤ bs)
    (kk : SW SR M d (bc - 1) (bs - FN ci) pc' lv (.ref n :: st) (up h n (.inr (ci, dfs ci))) (n + 1) Post) : SW SR M d bc bs pc lv st h n Post := by
  subst hp
  intro G p l e R s m args below meth c A ad0 n0 Q hc hr he H locs cells slots ls ad hm hl hx hbc hbs
  obtain ⟨hx1, hb1, hr1, hml1, hown1, hts1, hlk1, htb1, hlt1, hin1, hK1, hN1, hSR1, hAO1, hC1, hA1⟩ := id hc
  refine va_new hx1 hb1 hts1 (cls_ws hci) (FTy ci) (cls_ty hci) hown1 (hts1 _ hw1) (hts1 _ hw2) (hts1 _ hw3) hK1 hm.1 hm.2.1 hm.2.2.1 hA1 (vwCl_at hci) dfs_ok (by omega) (by omega) hdg (fun q H1 hP hD hS => ?_)
  have e9 : (Sum.inr (ci, dfs ci) : va_E) = emE G.2.1 ad (.inr (ci, dfs ci)) := by
    show _ = Sum.inr (ci, (dfs ci).map (em ad))
    rw [dfs_em]
  rw [e9] at hP hD
  have hl9 : LM (up ad n q) M.2.2.1 (n + 1) lv (.ref n :: st) ls := (hl.new (q := q)).stk (clc (hl.new (q := q)).2.2 clV_new)
  have k9 := kk G p l e R s m args below meth c A ad0 n0 Q hc hr he H1 locs (cells + 1) (slots + FN ci) ls (up ad n q) (hm.new dfs_cl hP hD hS) hl9 hx.new (by omega) (by omega)
  rw [List.map_cons, em_new hl.2.2] at k9
  have e1 : em (up ad n q) (.ref n) = .ref q := congrArg Value.ref up_s
  rw [e1] at k9
  exact k9
theorem sw_newa {t len : Nat} {aty : ArrayType} {x : Int32} (hp : pc + 2 = pc') (hdg : decode M.2.1 pc = .ok (.newarray aty, 2)) (ht : aty = .int ∧ t = 0 ∨ aty = .boolean ∧ t = 1 ∨ aty = .byte ∧ t = 2) (hw : Cond.arrayClass (newarray.typeOf aty) ∈ GT) (hx9 : x = nI len) (hlen : len ≤ 65536) (h1 : 1 ≤ bc) (h2 : len ≤ bs)
    (kk : SW SR M d (bc - 1) (bs - len) pc' lv (.ref n :: st) (up h n (.inl (t, len, .inl (fun _ => 0)))) (n + 1) Post) : SW SR M d bc bs pc lv (.int x :: st) h n Post := by
  subst hp
  intro G p l e R s m args below meth c A ad0 n0 Q hc hr he H locs cells slots ls ad hm hl hx hbc hbs
  obtain ⟨hx1, hb1, hr1, hml1, hown1, hts1, hlk1, htb1, hlt1, hin1, hK1, hN1, hSR1, hAO1, hC1, hA1⟩ := id hc
  subst hx9
  have ec : (nI len).toNatClampNeg = len := nI_clamp (by omega)
  have hcells9 : cells + 1 ≤ R.cells := by omega
  have hslots9 : slots + len ≤ R.slots := by omega
  have go : ∀ (q : Nat) (cA : ClassId) (H1 : Heap), t < 6 → va_K G.1 vwCl (tysOf G.2.1 ++ [(cA, aTy t)]) s → (∀ C, aTy t ≠ .object C) → va_P G.1 vwCl (wsH G ad h n ++ [(q, .inl (cA, len, .inl (fun _ => 0)))]) H1 → va_D A (wsH G ad h n ++ [(q, .inl (cA, len, .inl (fun _ => 0)))]) → va_S A s.heap H1 locs →
      W p l e R s m args below meth c H1 locs (cells + 1) (slots + len) Q (F0 m (pc + 2) ls (.ref q :: st.map (em ad))) := by
    intro q cA H1 ht6 hK9 hno hP hD hS
    have e1 : cA = G.2.1 t := by
      have g1 := (hK9.2 6 (cA, aTy t) rfl).2
      have g2 := (hK1.2 t _ (tysAt ht6)).2
      cases hty : aTy t <;> rw [hty] at g1 g2 <;> first | exact Option.some.inj (g1.symm.trans g2) | exact absurd hty (hno _)
    subst e1
    have hl8 : LM ad M.2.2.1 n lv st ls := hl.stk (cl1 hl.2.2)
    have hl9 : LM (up ad n q) M.2.2.1 (n + 1) lv (.ref n :: st) ls := (hl8.new (q := q)).stk (clc (hl8.new (q := q)).2.2 clV_new)
    have k9 := kk G p l e R s m args below meth c A ad0 n0 Q hc hr he H1 locs (cells + 1) (slots + len) ls (up ad n q) (hm.new (e := .inl (t, len, .inl (fun _ => 0))) trivial hP hD hS) hl9 hx.new (by omega) (by omega)
    rw [List.map_cons, em_new hl8.2.2] at k9
    have e1 : em (up ad n q) (.ref n) = .ref q := congrArg Value.ref up_s
    rw [e1] at k9
    exact k9
  rcases ht with ⟨rfl, rfl⟩ | ⟨rfl, rfl⟩ | ⟨rfl, rfl⟩
  · exact va_newa (a0 := (len, .inl (fun _ => 0))) (ty := .int) hx1 hb1 (hts1 _ hw) rfl hK1 hm.1 hm.2.1 hm.2.2.1 hA1 (fun _ => rfl) (nI_pos (by omega)) ec (by show len * 4 ≤ _; omega) hcells9 hslots9 hdg (fun q cA H1 a1 a2 a3 a4 => go q cA H1 (by decide) a1 (fun _ z => by cases z) a2 a3 a4)
  · exact va_newa (a0 := (len, .inl (fun _ => 0))) (ty := .boolean) hx1 hb1 (hts1 _ hw) rfl hK1 hm.1 hm.2.1 hm.2.2.1 hA1 (fun _ => rfl) (nI_pos (by omega)) ec (by show len * 1 ≤ _; omega) hcells9 hslots9 hdg (fun q cA H1 a1 a2 a3 a4 => go q cA H1 (by decide) a1 (fun _ z => by cases z) a2 a3 a4)
  · exact va_newa (a0 := (len, .inl (fun _ => 0))) (ty := .byte) hx1 hb1 (hts1 _ hw) rfl hK1 hm.1 hm.2.1 hm.2.2.1 hA1 (fun _ => rfl) (nI_pos (by omega)) ec (by show len * 1 ≤ _; omega) hcells9 hslots9 hdg (fun q cA H1 a1 a2 a3 a4 => go q cA H1 (by decide) a1 (fun _ z => by cases z) a2 a3 a4)
theorem sw_newq {t len idx : Nat} {x : Int32} (hp : pc + 3 = pc') (hdg : decode M.2.1 pc = .ok (.anewarray idx, 3)) (ht : t = 3 ∨ t = 4) (hw : ∀ C, aTy t = .object C → Cond.classLink M.1.cls idx C ∈ GT) (hx9 : x = nI len) (hlen : len ≤ 65536) (h1 : 1 ≤ bc) (h2 : len ≤ bs)
    (kk : SW SR M d (bc - 1) (bs - len) pc' lv (.ref n :: st) (up h n (.inl (t, len, .inr (.inr (.inr (.inr (fun _ => none))))))) (n + 1) Post) : SW SR M d bc bs pc lv (.int x :: st) h n Post := by
  subst hp
  intro G p l e R s m args below meth c A ad0 n0 Q hc hr he H locs cells slots ls ad hm hl hx hbc hbs
  obtain ⟨hx1, hb1, hr1, hml1, hown1, hts1, hlk1, htb1, hlt1, hin1, hK1, hN1, hSR1, hAO1, hC1, hA1⟩ := id hc
  subst hx9
  have ec : (nI len).toNatClampNeg = len := nI_clamp (by omega)
  obtain ⟨C, hC9, hAO⟩ : ∃ C, aTy t = .object C ∧ va_AO C s := by
    rcases ht with rfl | rfl
    · exact ⟨_, rfl, hAO1.1⟩
    · exact ⟨_, rfl, hAO1.2.1⟩
  have ht6 : t < 6 := by omega
  refine va_newq hx1 hb1 hown1 (hts1 _ (hw C hC9)) hAO hK1 hm.1 hm.2.1 hm.2.2.1 hA1 (N' := len) (nI_pos (by omega)) ec (by omega) (by omega) (by omega) hdg (fun q cA H1 hK9 hP hD hS => ?_)
  have e1 : cA = G.2.1 t := by
    obtain ⟨kA, comp, -, -, -, g1⟩ := (hK9.2 6 (cA, .object C) rfl).2
    have g2 := (hK1.2 t _ (tysAt ht6)).2
    rw [hC9] at g2
    obtain ⟨kA2, comp2, -, -, -, g2⟩ := g2
    exact Option.some.inj (g1.symm.trans g2)
  subst e1
  have hl8 : LM ad M.2.2.1 n lv st ls := hl.stk (cl1 hl.2.2)
  have hl9 : LM (up ad n q) M.2.2.1 (n + 1) lv (.ref n :: st) ls := (hl8.new (q := q)).stk (clc (hl8.new (q := q)).2.2 clV_new)
  have k9 := kk G p l e R s m args below meth c A ad0 n0 Q hc hr he H1 locs (cells + 1) (slots + len) ls (up ad n q) (hm.new (e := .inl (t, len, .inr (.inr (.inr (.inr (fun _ => none)))))) (fun _ _ z => by cases z) hP hD hS) hl9 hx.new (by omega) (by omega)
  rw [List.map_cons, em_new hl8.2.2] at k9
  have e1 : em (up ad n q) (.ref n) = .ref q := congrArg Value.ref up_s
  rw [e1] at k9
  exact k9
theorem sw_objInit {idx i : Nat} (hp : pc + 3 = pc') (hdg : decode M.2.1 pc = .ok (.invokespecial idx, 3)) (hw1 : Cond.methodLink M.1.cls idx Lib.objectInit ∈ GT) (hw2 : Cond.instanceMethod Lib.objectInit ∈ GT) (hw3 : Cond.code Lib.objectInit ⟨#[0xb1]⟩ 1 none ∈ GT) (hst : (st.map fun v => v.category).sum ≤ 8)
    (kk : SW SR M d bc bs pc' lv st h n Post) : SW SR M d bc bs pc lv (.ref i :: st) h n Post := by
  subst hp
  intro G p l e R s m args below meth c A ad0 n0 Q hc hr he H locs cells slots ls ad hm hl hx hbc hbs
  have hk9 := kk G p l e R s m args below meth c A ad0 n0 Q hc hr he H locs cells slots ls ad hm (hl.stk (cl1 hl.2.2)) hx hbc hbs
  obtain ⟨hx1, hb1, hr1, hml1, hown1, hts1, hlk1, htb1, hlt1, hin1, hK1, hN1, hSR1, hAO1, hC1, hA1⟩ := id hc
  have e9 : ((st.map (em ad)).map fun v => v.category) = st.map fun v => v.category := by
    rw [List.map_map]
    exact List.map_congr_left (fun v _ => em_cat)
  refine W.objInit hx1 hb1 hown1 (hts1 _ hw1) (hts1 _ hw2) (hts1 _ hw3) rfl (by rw [hml1]; exact hl.1.1) rfl hdg (by have := hr.1; omega) ?_ hk9
  show 2 * 0 + ((st.map (em ad)).map fun v => v.category).sum + 12 ≤ R.locals
  rw [e9]
  have := hr.2
  omega
/-- two of the enum's constants -/
theorem sw_acmp {i j : Nat} {off : Int} (hp : pc + 3 = pc') (hdg : decode M.2.1 pc = .ok (.if_acmp .ne off, 3)) (ht : (pc : Int) + off = (tgt : Int)) (h1 : 1 ≤ i ∧ i ≤ 5) (h2 : 1 ≤ j ∧ j ≤ 5)
    (kt : ¬ i = j → SW SR M d bc bs tgt lv st h n Post) (kf : i = j → SW SR M d bc bs pc' lv st h n Post) : SW SR M d bc bs pc lv (.ref j :: .ref i :: st) h n Post := by
  subst hp
  intro G p l e R s m args below meth c A ad0 n0 Q hc hr he H locs cells slots ls ad hm hl hx hbc hbs
  obtain ⟨hx1, hb1, hr1, hml1, hown1, hts1, hlk1, htb1, hlt1, hin1, hK1, hN1, hSR1, hAO1, hC1, hA1⟩ := id hc
  have e1 := (hm.2.2.2.2.2 i (by have := h1.2; unfold nC; omega)).2.1
  have e2 := (hm.2.2.2.2.2 j (by have := h2.2; unfold nC; omega)).2.1
  refine lv_acmp_ne (rx := some (ad i)) (ry := some (ad j)) hx1 hb1 hdg ht (fun z => ?_) (fun z => ?_)
  · exact kt (fun q => z (by rw [q])) G p l e R s m args below meth c A ad0 n0 Q hc hr he H locs cells slots ls ad hm (hl.stk (cl2 hl.2.2)) hx hbc hbs
  · have z9 : ad i = ad j := Option.some.inj z
    rw [e1, e2] at z9
    exact kf (hC1.2.2.2.2.2 i j h1.1 h1.2 h2.1 h2.2 z9) G p l e R s m args below meth c A ad0 n0 Q hc hr he H locs cells slots ls ad hm (hl.stk (cl2 hl.2.2)) hx hbc hbs
end
end
section
/-! a method from its first place; throws; calls -/
theorem W.mono {p : Program} {l : Launch} {e : Env} {R : Room} {s : State} {m : MethodId} {args : Array Value} {below : List Frame} {meth : Method} {c : Code} {H : Heap} {locs : List Loc} {cells slots : Nat} {Q Q' : State → Prop} {g : JFrame} (hQ : ∀ t, Q t → Q' t) (k : W p l e R s m args below meth c H locs cells slots Q g) : W p l e R s m args below meth c H locs cells slots Q' g := by
  intro T hT X
  obtain ⟨t, a, b⟩ := k T hT X
  exact ⟨t, a, hQ t b⟩
theorem vx_W.mono {p : Program} {l : Launch} {e : Env} {R : Room} {s : State} {m : MethodId} {args : Array Value} {below : List Frame} {meth : Method} {c : Code} {H : Heap} {locs : List Loc} {cells slots : Nat} {Q Q' : State → Prop} {g : JFrame} {q : Addr} (hQ : ∀ t, Q t → Q' t) (k : vx_W p l e R s m args below meth c H locs cells slots Q g q) : vx_W p l e R s m args below meth c H locs cells slots Q' g q := by
  intro T hT X
  obtain ⟨t, a, b⟩ := k T hT X
  exact ⟨t, a, hQ t b⟩
theorem lv_args_map {ad : Nat → Nat} : ∀ (as : List Value) (i : Nat), lv_args i (as.map (em ad)) = (lv_args i as).map (fun q => (q.1, em ad q.2))
  | [], _ => rfl
  | v :: vs, i => by
    show (i, em ad v) :: lv_args (if (em ad v).category = 2 then i + 2 else i + 1) (vs.map (em ad)) = (i, em ad v) :: (lv_args (if v.category = 2 then i + 2 else i + 1) vs).map (fun q => (q.1, em ad q.2))
    rw [em_cat, lv_args_map vs]
theorem lv_args_cl {n : Nat} : ∀ (as : List Value) (i : Nat), (∀ v ∈ as, clV n v) → ∀ q ∈ lv_args i as, clV n q.2
  | [], _, _, q, hq => by cases hq
  | v :: vs, i, h, q, hq => by
    rcases List.mem_cons.mp hq with e | e
    · rw [e]; exact h v List.mem_cons_self
    · exact lv_args_cl vs _ (fun w hw => h w (List.mem_cons_of_mem _ hw)) q e
theorem lg_sl_len {ad : Nat → Nat} : ∀ (as : List Value), (lg_sl (as.map (em ad))).length = (lg_sl as).length
  | [] => rfl
  | v :: vs => by
    have ih := lg_sl_len (ad := ad) vs
    have e1 : lg_sl ((v :: vs).map (em ad)) = (if (em ad v).category = 2 then [.val (em ad v), .second] else [.val (em ad v)]) ++ lg_sl (vs.map (em ad)) := by simp [lg_sl]
    have e2 : lg_sl (v :: vs) = (if v.category = 2 then [.val v, .second] else [.val v]) ++ lg_sl vs := by simp [lg_sl]
    rw [e1, e2, List.length_append, List.length_append, ih, em_cat]
    split <;> rfl
theorem GT_good : ∀ w ∈ GT, goodWord w = true := fun w hw => (List.mem_filter.mp hw).2
theorem cwM_good (M : MI) : goodWord (cwM M) = true := by
  unfold cwM
  split <;> rfl
theorem wsM_GT {M : MI} (hM : cwM M ∈ GT) : GoodIn GT (wsM M) := fun w hw => by
  rcases List.mem_cons.mp hw with e | e
  · rw [e]; exact ⟨hM, good_of_word (cwM_good M)⟩
  · exact ⟨e, good_of_word (GT_good w e)⟩
section
variable {SR : SRT} {M : MI}
/-- the method's ends out of its contract -/
theorem en_of {d bc bs : Nat} {h0 : AH} {n0 : Nat} {Post : ARes → AH → Nat → Prop} {G : GD} {p : Program} {l : Launch} {e : Env} {R : Room} {s : State} {m : MethodId} {args : Array Value} {below : List Frame} {meth : Method} {c : Code} {A : Nat → Prop} {ad0 : Nat → Nat} (hc : CX SR G M p l s m args meth c A) :
    EN G M p l e R s m args below meth c A ad0 n0 (vx_MQ below (SQc G A ad0 n0 Post) (SXc G A ad0 n0 Post) args s R.cells R.slots A) Post := by
  obtain ⟨hx1, hb1, hr1, hml1, hown1, hts1, hlk1, htb1, hlt1, hin1, hK1, hN1, hSR1, hAO1, hC1, hA1⟩ := id hc
  refine ⟨fun H locs cells slots ls ad h n v pc hm hx hcl hP hcells hslots hret => ?_, fun H locs ad h n E hm hx hP t ht => ?_⟩
  · have hq : ∀ t : State, t.heap = H → s.WarmedH t.vm → SQc G A ad0 n0 Post args s (.returned (v.map (em ad))) t := fun t ht hW =>
      ⟨⟨v, ad, h, n, rfl, hP, hx, hcl, by rw [ht]; exact hm.1, hm.2.1, hm.2.2.2.1, hm.2.2.2.2.1, hm.2.2.2.2.2⟩, hm.2.2.1.F ht⟩
    refine vx_ret (W.widen hcells hslots ?_)
    match v, hret, hq with
    | none, hret, hq => exact W.vret hx1 hb1 (hr1.trans hret.2) hq hm.2.2.1.2.2 hret.1 hlk1
    | some (.int x), hret, hq =>
      obtain ⟨g1, ty, g2, g3⟩ := hret
      exact W.zret hx1 hb1 (hr1.trans g2) g3 hq hm.2.2.1.2.2 g1 hlk1
    | some (.long x), hret, hq => exact W.lret hx1 hb1 (hr1.trans hret.2) hq hm.2.2.1.2.2 hret.1 hlk1
    | some (.ref i), hret, hq =>
      obtain ⟨g1, rt, g2, g3⟩ := hret
      exact W.aret hx1 hb1 (hr1.trans g2) g3 (Or.inr ⟨_, rfl⟩) hq hm.2.2.1.2.2 g1 hlk1
  · obtain ⟨o, b1, b2, b3⟩ := ht
    refine ⟨o, b1, b2, ?_⟩
    rcases b3 with ⟨z, -⟩ | ⟨q, ho, E', ce, L, ⟨rfl, g1, g2⟩, g3, g4, g5, g6, g7, g8⟩
    · exact z.elim
    · refine Or.inr ⟨q, ho, E', ce, L, ⟨⟨ad, h, n, hP, hx, ?_, hm.2.1, hm.2.2.2.1, hm.2.2.2.2.1, hm.2.2.2.2.2⟩, ?_⟩, g3, g4, g5, g6, g7, g8⟩
      · exact hm.1.kept (fun k q hk => g2 _ ((hm.1 k q hk).lt))
      · exact ⟨Nat.le_trans hm.2.2.1.1 g1, fun q a b => (g2 q (Nat.lt_of_lt_of_le a hm.2.2.1.1)).trans (hm.2.2.1.2.1 q a b)⟩
theorem hm_entry {G : GD} {ad : Nat → Nat} {h : AH} {n sz : Nat} {s : State} (hv : PicU SR G ad h n sz s) : HM G (va_A (wsH G ad h n) sz) s.heap h n s.heap [] ad := by
  obtain ⟨h1, h2, h3, h4, h5, h6, -⟩ := hv
  refine ⟨h2, ?_, va_S.rf, h4, h5, h6⟩
  exact h3.self
theorem sm_of {d bc bs : Nat} {as : List Value} {h : AH} {n : Nat} {Post : ARes → AH → Nat → Prop} (hy : plainName M.1.cls = true) (hM : M.2.2.2.2 = []) (hlen : (lg_sl as).length ≤ M.2.2.1)
    (k : SW SR M d bc bs 0 (lv_args 0 as) [] h n Post) : SM SR M d bc bs as h n Post := by
  intro l hl G ad sz has
  have hcw : cwM M = Cond.code M.1 M.2.1 M.2.2.1 M.2.2.2.1 := by unfold cwM; rw [if_pos hM]
  refine vx_ofW (cc := M.2.1) (maxL := M.2.2.1) (ret := M.2.2.2.1) (ws' := GT) hy (by rw [← hcw]; rfl) ?_
  intro p e s m args below meth c s₁ B hml ht hv
  obtain ⟨rfl, hv⟩ := hv
  have hts := atoms_spec (ws := wsM M) B.pre
  have hcx : CX SR G M p l s m ((as.map (em ad)).toArray) meth c (va_A (wsH G ad h n) sz) := by
    refine ⟨B.exec, B.bytes, B.returns, hml, findClass_of_methodNamed B.named, fun w hw => hts w (List.mem_cons_of_mem _ hw), B.notSynchronized, ?_, hl, fun q => (name_of_methodNamed B.named B.method).1.trans q, hv.2.2.2.2.2.2.1, hv.2.2.2.2.2.2.2.1, hv.2.2.2.2.2.2.2.2.1, hv.2.2.2.2.2.2.2.2.2.1, hv.2.2.2.2.2.2.2.2.2.2, fun q hq => Or.inr (by rw [← hv.1]; exact hq)⟩
    rw [hM]
    exact List.eq_nil_iff_forall_not_mem.mpr ht
  have hl9 := lv_entry (as.map (em ad)) (n := M.2.2.1) (by rw [lg_sl_len]; exact hlen)
  rw [lg_entry_eq]
  refine k G p l e (headSpec (wsM M) (rmOf d bc bs)).room s m _ below meth c _ ad n _ hcx ⟨Nat.le_refl _, Nat.le_refl _⟩ (en_of (d := d) (bc := bc) (bs := bs) (h0 := h) hcx) _ _ 0 0 _ ad (hm_entry hv) ⟨?_, lv_args_cl as 0 has, fun v hv => by cases hv⟩ Ext.rf (by show 0 + bc ≤ bc; omega) (by show 0 + bs ≤ bs; omega)
  rw [← lv_args_map]
  exact hl9
theorem sm_ofH {d bc bs : Nat} {as : List Value} {h : AH} {n : Nat} {Post : ARes → AH → Nat → Prop} (hy : plainName M.1.cls = true) (hM : M.2.2.2.2 ≠ []) (hlen : (lg_sl as).length ≤ M.2.2.1)
    (k : SW SR M d bc bs 0 (lv_args 0 as) [] h n Post) : SM SR M d bc bs as h n Post := by
  intro l hl G ad sz has
  have hcw : cwM M = Cond.codeWith M.1 M.2.1 M.2.2.1 M.2.2.2.1 M.2.2.2.2 := by unfold cwM; rw [if_neg hM]
  refine vx_ofWH (cc := M.2.1) (maxL := M.2.2.1) (ret := M.2.2.2.1) (hh := M.2.2.2.2) (ws' := GT) hy (by rw [← hcw]; rfl) ?_
  intro p e s m args below meth c s₁ B hml hv
  obtain ⟨rfl, hv⟩ := hv
  have hts := atoms_spec (ws := wsM M) B.pre
  have hcx : CX SR G M p l s m ((as.map (em ad)).toArray) meth c (va_A (wsH G ad h n) sz) := by
    refine ⟨B.exec, B.bytes, B.returns, hml, findClass_of_methodNamed B.named, fun w hw => hts w (List.mem_cons_of_mem _ hw), B.notSynchronized, ?_, hl, fun q => (name_of_methodNamed B.named B.method).1.trans q, hv.2.2.2.2.2.2.1, hv.2.2.2.2.2.2.2.1, hv.2.2.2.2.2.2.2.2.1, hv.2.2.2.2.2.2.2.2.2.1, hv.2.2.2.2.2.2.2.2.2.2, fun q hq => Or.inr (by rw [← hv.1]; exact hq)⟩
    exact vx_table (x := M.1) B (hcw ▸ hts _ List.mem_cons_self)
  have hl9 := lv_entry (as.map (em ad)) (n := M.2.2.1) (by rw [lg_sl_len]; exact hlen)
  rw [lg_entry_eq]
  refine k G p l e (headSpec (wsM M) (rmOf d bc bs)).room s m _ below meth c _ ad n _ hcx ⟨Nat.le_refl _, Nat.le_refl _⟩ (en_of (d := d) (bc := bc) (bs := bs) (h0 := h) hcx) _ _ 0 0 _ ad (hm_entry hv) ⟨?_, lv_args_cl as 0 has, fun v hv => by cases hv⟩ Ext.rf (by show 0 + bc ≤ bc; omega) (by show 0 + bs ≤ bs; omega)
  rw [← lv_args_map]
  exact hl9
end
end
section
/-! exceptions: made and thrown, going on, caught -/
/-- the words of a throw of E by 'throw new E("..")' in the class own: good ones among GT, the others among NW -/
def thOK (own : String) (ic : Nat) (E : String) (names : List String) : Bool :=
  (vx_atS own ic E names).all (fun w => if goodWord w then decide (w ∈ GT) else decide (w ∈ NW) && w.onTables)
theorem thOK_spec {own : String} {ic : Nat} {E : String} {names : List String} (h : thOK own ic E names = true) {args : Array Value} {s : State} (h1 : ∀ w ∈ GT, w.before args s = true) (h2 : NWs s) :
    (∀ w ∈ vx_atS own ic E names, w.before args s = true) ∧ ∀ w ∈ vx_atS own ic E names, vx_ot w = true := by
  refine ⟨fun w hw => ?_, fun w hw => ?_⟩
  · have g := List.all_eq_true.mp h w hw
    by_cases q : goodWord w = true
    · rw [if_pos q] at g
      exact h1 w (of_decide_eq_true g)
    · rw [if_neg q, Bool.and_eq_true] at g
      exact va_Nw.use g.2 (h2 w (of_decide_eq_true g.1))
  · have g := List.all_eq_true.mp h w hw
    by_cases q : goodWord w = true
    · unfold vx_ot; rw [q, Bool.or_true]
    · rw [if_neg q, Bool.and_eq_true] at g
      unfold vx_ot; rw [g.2, Bool.true_or]
/-- E is pending at pc -/
def SWX (SR : SRT) (M : MI) (d bc bs : Nat) (pc : Nat) (lv : List (Nat × Value)) (E : String) (h : AH) (n : Nat) (Post : ARes → AH → Nat → Prop) : Prop :=
  ∀ (G : GD) (p : Program) (l : Launch) (e : Env) (R : Room) (s : State) (m : MethodId) (args : Array Value) (below : List Frame) (meth : Method) (c : Code) (A : Nat → Prop) (ad0 : Nat → Nat) (n0 : Nat) (Q : State → Prop),
    CX SR G M p l s m args meth c A → RM d R → EN G M p l e R s m args below meth c A ad0 n0 Q Post →
    ∀ (H : Heap) (locs : List Loc) (cells slots : Nat) (ls : Array Slot) (ad : Nat → Nat), HM G A s.heap h n H locs ad → LM ad M.2.2.1 n lv [] ls → Ext ad0 ad n0 n → cells + bc ≤ R.cells → slots + bs ≤ R.slots →
    ∀ (q9 : Addr) (ce : Cell) (rest : List Value), H[q9]? = some ce → ce.vm = .none → s.vm.findClass E = some ce.cls → vx_W p l e R s m args below meth c H locs cells slots Q (F0 m pc ls rest) q9
section
variable {SR : SRT} {M : MI} {d bc bs pc pc' tgt n : Nat} {lv : List (Nat × Value)} {st : List Value} {h : AH} {Post : ARes → AH → Nat → Prop}
theorem sw_throw {E tx : String} {ik is ic i : Nat} {names : List String} (hM : M.2.2.2.2 = []) (d0 : decode M.2.1 pc = .ok (.new ik, 3)) (d3 : decode M.2.1 (pc + 3) = .ok (.dup, 1)) (d4 : decode M.2.1 (pc + 4) = .ok (.ldc is, 2)) (d6 : decode M.2.1 (pc + 6) = .ok (.invokespecial ic, 3)) (d9 : decode M.2.1 (pc + 9) = .ok (.athrow, 1))
    (hE : Bundle.fit E = true) (hn : ∀ z ∈ names, Bundle.fit z = true) (hlen : names.length ≤ 3) (hk : Cond.classLink M.1.cls ik E ∈ GT) (hini : Cond.initialized E ∈ GT) (hs : (M.1.cls, is, tx, i) ∈ SR) (hth : thOK M.1.cls ic E names = true) (h1 : 1 ≤ bc) (h2 : 6 ≤ bs) (hP : Post (.inr E) h n) : SW SR M d bc bs pc lv [] h n Post := by
  intro G p l e R s m args below meth c A ad0 n0 Q hc hr he H locs cells slots ls ad hm hl hx hbc hbs
  obtain ⟨hx1, hb1, hr1, hml1, hown1, hts1, hlk1, htb1, hlt1, hin1, hK1, hN1, hSR1, hAO1, hC1, hA1⟩ := id hc
  obtain ⟨t1, t2⟩ := thOK_spec hth hts1 hN1
  have hgood : ∀ w ∈ Cond.classLink M.1.cls ik E :: Cond.initialized E :: vx_atS M.1.cls ic E names, vx_ot w = true := by
    intro w hw
    rcases List.mem_cons.mp hw with rfl | hw
    · rfl
    rcases List.mem_cons.mp hw with rfl | hw
    · rfl
    exact t2 w hw
  have hfr := hr.1
  have hlo := hr.2
  refine W.mono (Q := vx_MQ below (fun _ _ _ _ => False) (vx_XH E H) args s R.cells R.slots A) (fun t ht => he.2 H locs ad h n E hm hx hP t ht) ?_
  exact vx_throwS (rest := []) (A := A) hx1 hb1 hlt1 hown1 hE hn (hts1 _ hk) (hts1 _ hini) (hSR1 _ hs) t1 hgood hC1.2.2.2.1 hC1.2.2.2.2.1 hm.2.2.1 (by rw [hml1]; exact hl.1.1) d0 d3 d4 d6 d9
    (fun x hx => by rw [htb1, hM] at hx; cases hx) (by omega) (by show 0 + _ ≤ _; omega) (by omega) (by omega) hlk1 (fun t hvm a b => ⟨rfl, a, b⟩) hm.2.2.1.2.2 (by omega) (by omega)
theorem swx_out {E : String} (hM : M.2.2.2.2 = []) (hP : Post (.inr E) h n) : SWX SR M d bc bs pc lv E h n Post := by
  intro G p l e R s m args below meth c A ad0 n0 Q hc hr he H locs cells slots ls ad hm hl hx hbc hbs q9 ce rest hce hcv hcl
  obtain ⟨hx1, hb1, hr1, hml1, hown1, hts1, hlk1, htb1, hlt1, hin1, hK1, hN1, hSR1, hAO1, hC1, hA1⟩ := id hc
  refine vx_W.mono (Q := vx_MQ below (fun _ _ _ _ => False) (vx_XH E H) args s R.cells R.slots A) (fun t ht => he.2 H locs ad h n E hm hx hP t ht) ?_
  exact vx_out (fun x hx => by rw [htb1, hM] at hx; cases hx) hlk1 hce hcv hcl (fun t ht _ => ⟨rfl, by rw [ht]; exact Nat.le_refl _, fun q _ => by rw [ht]⟩) hm.2.2.1.2.2 (by omega) (by omega)
/-- caught by the table's row x, where the handler begins by putting it into a local, which nobody reads -/
theorem swx_catch {E : String} {pre suf : List (Nat × Nat × Nat × Nat)} {x : Nat × Nat × Nat × Nat} {k0 : Fin 4} {lv' : List (Nat × Value)} (hsplit : M.2.2.2.2 = pre ++ x :: suf) (hpass : ∀ z ∈ pre, z.2.2.2 ≠ 0 ∧ ∃ nm, Cond.classLink M.1.cls z.2.2.2 nm ∈ GT ∧ (E, nm) ∈ XP) (hx0 : x.1 ≤ pc ∧ pc < x.2.1) (h0 : x.2.2.2 ≠ 0) (hlink : Cond.classLink M.1.cls x.2.2.2 E ∈ GT) (hcast : Cond.castable E E ∈ NW)
    (hdg : decode M.2.1 x.2.2.1 = .ok (.astore_n k0, 1)) (hk : (k0 : Nat) < M.2.2.1) (hl9 : lv.filter (fun q => !(q.1 == (k0 : Nat)) && !(q.1 + 1 == (k0 : Nat) && q.2.category == 2)) = lv') (k : SW SR M d bc bs (x.2.2.1 + 1) lv' [] h n Post) : SWX SR M d bc bs pc lv E h n Post := by
  subst hl9
  intro G p l e R s m args below meth c A ad0 n0 Q hc hr he H locs cells slots ls ad hm hl hx hbc hbs q9 ce rest hce hcv hcl
  obtain ⟨hx1, hb1, hr1, hml1, hown1, hts1, hlk1, htb1, hlt1, hin1, hK1, hN1, hSR1, hAO1, hC1, hA1⟩ := id hc
  have e1 : c.exceptionTable.toList = tableOf pre ++ ⟨x.1, x.2.1, x.2.2.1, x.2.2.2⟩ :: tableOf suf := by
    rw [htb1, hsplit]
    simp [tableOf]
  refine vx_catch hown1 (tableOf pre) ⟨x.1, x.2.1, x.2.2.1, x.2.2.2⟩ (tableOf suf) e1 (fun z hz => ?_) (by simp [covers]; omega) h0 (hts1 _ hlink) (va_Nw.use rfl (hN1 _ hcast)) hce hcv hcl ?_
  · obtain ⟨z', hz', rfl⟩ := List.mem_map.mp hz
    obtain ⟨g1, nm, g2, g3⟩ := hpass z' hz'
    exact Or.inr ⟨g1, nm, hts1 _ g2, hAO1.2.2.2 _ g3⟩
  · refine lv_astore_n hx1 hb1 hdg rfl hl.1 hk rfl (fun ls' hl' => ?_)
    refine k G p l e R s m args below meth c A ad0 n0 Q hc hr he H locs cells slots ls' ad hm ⟨⟨hl'.1, hl'.2.1, fun q hq => ?_⟩, fun q hq => hl.2.1 q (List.mem_filter.mp hq).1, fun v hv => by cases hv⟩ hx hbc hbs
    apply hl'.2.2
    refine List.mem_cons_of_mem _ ?_
    obtain ⟨z, hz, rfl⟩ := List.mem_map.mp hq
    obtain ⟨z1, z2⟩ := List.mem_filter.mp hz
    refine List.mem_filter.mpr ⟨List.mem_map.mpr ⟨z, z1, rfl⟩, ?_⟩
    show (!(z.1 == (k0 : Nat)) && !(z.1 + 1 == (k0 : Nat) && (em ad z.2).category == 2)) = true
    rw [em_cat]
    exact z2
end
end
section
/-! calls -/
theorem PicU.warm {SR : SRT} {G : GD} {ad : Nat → Nat} {h : AH} {n sz : Nat} {U U' : State} (hW : U.WarmedH U'.vm) (hh : U'.heap = U.heap) (hp : PicU SR G ad h n sz U) : PicU SR G ad h n sz U' := by
  obtain ⟨h1, h2, h3, h4, h5, h6, h7, h8, h9, h10, h11⟩ := hp
  refine ⟨by rw [hh]; exact h1, by rw [hh]; exact h2, h3, h4, h5, h6, va_K.moved hW.alike h7, h8.warm hW, fun q hq => (h9 q hq).warm hW, h10.moved hW.alike, ?_⟩
  rw [hh]
  exact h11.moved hW.alike
theorem picU_blind {SR : SRT} {G : GD} {ad : Nat → Nat} {h : AH} {n sz : Nat} {as : List Value} : FrameBlind (va_Pc as (PicU SR G ad h n sz)) := fun a U g mk q => ⟨q.1, PicU.warm (U := U) (U' := U.calling g mk a) (State.WarmedH.refl U) rfl q.2⟩
theorem ws_free {G : GD} {A : Nat → Prop} {H0 : Heap} {h : AH} {n : Nat} {H : Heap} {locs : List Loc} {ad : Nat → Nat} (hm : HM G A H0 h n H locs ad) (hA : ∀ q, H0.size ≤ q → A q) : ∀ q, va_A (wsH G ad h n) H.size q → A q := fun q hq => by
  rcases hq with ⟨k, e, hk⟩ | hq
  · exact hm.2.1.2 k _ hk
  · exact hA q (Nat.le_trans hm.2.2.1.1 hq)
section
variable {SR : SRT} {M : MI} {p : Program} {l : Launch} {e : Env} {R : Room} {s : State} {m : MethodId} {args : Array Value} {below : List Frame} {meth : Method} {c : Code} {H : Heap} {locs : List Loc} {cells slots : Nat} {Q : State → Prop}
  {d bc bs bc' bs' pc n n0 : Nat} {lv : List (Nat × Value)} {st : List Value} {h : AH} {Post Post' : ARes → AH → Nat → Prop} {G : GD} {A : Nat → Prop} {ad ad0 : Nat → Nat} {ls : Array Slot} {st0 : List Value} {a : Array Value}
theorem picU_at (hc : CX SR G M p l s m args meth c A) (hm : HM G A s.heap h n H locs ad) {U : State} (hU : U.heap = H) (hW : s.WarmedH U.vm) : PicU SR G ad h n H.size U := by
  obtain ⟨hx1, hb1, hr1, hml1, hown1, hts1, hlk1, htb1, hlt1, hin1, hK1, hN1, hSR1, hAO1, hC1, hA1⟩ := id hc
  refine ⟨by rw [hU], by rw [hU]; exact hm.1, hm.2.1.weaken (fun _ _ _ _ => trivial), hm.2.2.2.1, hm.2.2.2.2.1, hm.2.2.2.2.2, va_K.moved hW.alike hK1, hN1.warm hW, fun q hq => (hSR1 q hq).warm hW, hAO1.moved hW.alike, ?_⟩
  rw [hU]
  exact ((hC1.kept hm.2.2.1.2.1).moved hW.alike).narrow (ws_free hm hA1)
theorem lm_ext {n' : Nat} {ad' : Nat → Nat} {st' : List Value} (hl : LM ad M.2.2.1 n lv st ls) (hE : Ext ad ad' n n') (hcl : ∀ v ∈ st', clV n' v) : LM ad' M.2.2.1 n' lv st' ls := by
  refine ⟨?_, fun q hq => clV_mono (hl.2.1 q hq) hE.1, hcl⟩
  have e1 : lv.map (fun z => (z.1, em ad' z.2)) = lv.map (fun z => (z.1, em ad z.2)) := List.map_congr_left (fun z hz => by rw [em_eq (hl.2.1 z hz) hE.2])
  rw [e1]
  exact hl.1
theorem run_go (hc : CX SR G M p l s m args meth c A) (hr : RM d R) (he : EN G M p l e R s m args below meth c A ad0 n0 Q Post) (hm : HM G A s.heap h n H locs ad) (hl : LM ad M.2.2.1 n lv st ls) (hx : Ext ad0 ad n0 n) (hbc : cells + bc ≤ R.cells) (hbs : slots + bs ≤ R.slots) (hb1 : bc' ≤ bc) (hb2 : bs' ≤ bs)
    (hrun : vx_Run p l e R s m args below meth c H locs cells slots bc' bs' (F0 m pc ls st0) (st.map (em ad)) (SQc G (va_A (wsH G ad h n) H.size) ad n Post' a) (SXc G (va_A (wsH G ad h n) H.size) ad n Post') (va_A (wsH G ad h n) H.size))
    (kk : ∀ v h' n', n ≤ n' → Post' (.inl v) h' n' → SW SR M d (bc - bc') (bs - bs') (pc + 3) lv (v.toList ++ st) h' n' Post) (kx : ∀ E h' n', n ≤ n' → Post' (.inr E) h' n' → SWX SR M d (bc - bc') (bs - bs') pc lv E h' n' Post) :
    W p l e R s m args below meth c H locs cells slots Q (F0 m pc ls st0) := by
  have hA1 : ∀ q, s.heap.size ≤ q → A q := hc.2.2.2.2.2.2.2.2.2.2.2.2.2.2.2
  have hfree := ws_free hm hA1
  intro T hT X
  rcases hrun T hT X with ⟨v, st₀, t, T', L, h0, X', hL, e1, e2, ⟨⟨v', ad', h', n', hv, hP, hE, hcl, hPic⟩, hF⟩, hst⟩ | ⟨q, st₀, t, T', L, E, ce, h0, X', hL, e1, e2, ⟨⟨ad', h', n', hP, hE, hPic⟩, hF⟩, hce, hcv, hcl, hst⟩
  · obtain ⟨k1, k2, k3⟩ := vx_keep h0 e1 hm.2.2.1 (fun q _ hq => hfree q hq) hfree hL hF
    have hv9 : v = v'.map (em ad') := Outcome.returned.inj hv
    subst hv9
    have hm' : HM G A s.heap h' n' T'.heap (locs ++ L) ad' := ⟨by rw [e1]; exact hPic.1, hPic.2.1.weaken (fun _ q _ hq => hfree q.1 hq), k3, hPic.2.2.1, hPic.2.2.2.1, hPic.2.2.2.2⟩
    have hcl' : ∀ w ∈ v'.toList ++ st, clV n' w := fun w hw => by
      rcases List.mem_append.mp hw with g | g
      · cases v' with
        | none => cases g
        | some z => cases g with
          | head => exact hcl _ rfl
          | tail _ g => cases g
      · exact clV_mono (hl.2.2 w g) hE.1
    have e9 : (v'.map (em ad')).toList ++ st.map (em ad) = (v'.toList ++ st).map (em ad') := by
      rw [List.map_append]
      congr 1
      · cases v' <;> rfl
      · exact List.map_congr_left (fun z hz => (em_eq (hl.2.2 z hz) hE.2).symm)
    have k9 := kk v' h' n' hE.1 hP G p l e R s m args below meth c A ad0 n0 Q hc hr he T'.heap (locs ++ L) (cells + bc') (slots + bs') ls ad' hm' (lm_ext hl hE hcl') (hx.tr hE) (by omega) (by omega) T' rfl X'
    obtain ⟨t2, a1, b1⟩ := k9
    refine ⟨t2, hst t2 ?_, b1⟩
    rw [← e9] at a1
    exact a1
  · obtain ⟨k1, k2, k3⟩ := vx_keep h0 e1 hm.2.2.1 (fun q _ hq => hfree q hq) hfree hL hF
    have hm' : HM G A s.heap h' n' T'.heap (locs ++ L) ad' := ⟨by rw [e1]; exact hPic.1, hPic.2.1.weaken (fun _ q _ hq => hfree q.1 hq), k3, hPic.2.2.1, hPic.2.2.2.1, hPic.2.2.2.2⟩
    obtain ⟨t2, a1, b1⟩ := kx E h' n' hE.1 hP G p l e R s m args below meth c A ad0 n0 Q hc hr he T'.heap (locs ++ L) (cells + bc') (slots + bs') ls ad' hm' (lm_ext hl hE (fun v hv => by cases hv)) (hx.tr hE) (by omega) (by omega) q ce (st.map (em ad)) (by rw [e1]; exact hce) hcv hcl T' rfl X'
    exact ⟨t2, hst.trans a1, b1⟩
theorem recv_at (hc : CX SR G M p l s m args meth c A) (hm : HM G A s.heap h n H locs ad) {b ci : Nat} {fs : List Value} (hb : h b = .inr (ci, fs)) (hbn : b < n) : ∃ cellB : Cell, H[ad b]? = some cellB ∧ cellB.vm.isStatics = false ∧ s.vm.findClass (CN ci) = some cellB.cls := by
  obtain ⟨hx1, hb1, hr1, hml1, hown1, hts1, hlk1, htb1, hlt1, hin1, hK1, hN1, hSR1, hAO1, hC1, hA1⟩ := id hc
  by_cases q : nC ≤ b
  · have e0 : (wsH G ad h n)[b - nC]? = some (ad b, .inr (ci, fs.map (em ad))) := by
      have h9 := wsH_get (G := G) (ad := ad) (h := h) q hbn
      rw [hb] at h9
      exact h9
    have hci : ci < 7 := by
      obtain ⟨r, hr9, -⟩ := hm.1 _ _ e0
      exact vwCl_lt hr9
    exact va_recv hK1 hm.1 (vwCl_at hci) e0
  · have q1 : b < nC := by omega
    obtain ⟨c1, c2, -⟩ := hm.2.2.2.2.2 b q1
    obtain ⟨c4, -⟩ := hC1.1 b ci fs q1 (by rw [← c1]; exact hb)
    rw [← c2] at c4
    obtain ⟨cell, g1, g2, g3, g4⟩ := c4.kept hm.2.2.1.2.1
    exact ⟨cell, g1, g2, g3⟩
end
theorem cat_map {ad : Nat → Nat} {st : List Value} : ((st.map (em ad)).map fun v => v.category).sum = (st.map fun v => v.category).sum := by
  rw [List.map_map]
  exact congrArg List.sum (List.map_congr_left (fun v _ => em_cat))
theorem rm_ok {d d' mx : Nat} {R : Room} {bc' bs' : Nat} (hr : RM d R) (hd : d' < d) (hm : mx ≤ 81) : (rmOf d' bc' bs').frames + 1 ≤ R.frames ∧ 8 + (mx + 11) + (rmOf d' bc' bs').locals ≤ R.locals := by
  have h1 := hr.1
  have h2 := hr.2
  constructor
  · show 2 * d' + 10 + 1 ≤ _
    omega
  · show 8 + (mx + 11) + (100 * d' + 200) ≤ _
    omega
def notMH (y : MethodName) : Bool := decide (y.cls ≠ "java/lang/invoke/MethodHandle") && decide (y.cls ≠ "java/lang/invoke/VarHandle")
theorem notMH_spec {y : MethodName} (h : notMH y = true) : y.cls ≠ "java/lang/invoke/MethodHandle" ∧ y.cls ≠ "java/lang/invoke/VarHandle" := by
  rw [notMH, Bool.and_eq_true] at h
  exact ⟨of_decide_eq_true h.1, of_decide_eq_true h.2⟩
theorem stk_map {ad : Nat → Nat} {as : List Value} {w : Value} {st : List Value} : (as.reverse ++ w :: st).map (em ad) = (as.map (em ad)).reverse ++ em ad w :: st.map (em ad) := by
  rw [List.map_append, List.map_reverse]
  rfl
theorem stk_map0 {ad : Nat → Nat} {as : List Value} {st : List Value} : (as.reverse ++ st).map (em ad) = (as.map (em ad)).reverse ++ st.map (em ad) := by
  rw [List.map_append, List.map_reverse]
section
variable {SR : SRT} {M M' : MI} {d d' bc bs bc' bs' pc idx n : Nat} {lv : List (Nat × Value)} {st as : List Value} {h : AH} {Post Post' : ARes → AH → Nat → Prop}
theorem sw_callV {b ci : Nat} {fs : List Value} (hdg : decode M.2.1 pc = .ok (.invokevirtual idx, 3)) (hw1 : Cond.methodLink M.1.cls idx M'.1 ∈ GT) (hw2 : Cond.instanceMethod M'.1 ∈ GT) (hw3 : Cond.selects M'.1.cls M'.1 M'.1 ∈ GT) (hw4 : Cond.initialized M'.1.cls ∈ GT) (hw5 : cwM M' ∈ GT) (hmh : notMH M'.1 = true) (hpar : (parseMethodDescriptor M'.1.desc).map (fun d => d.parameters.length) = some as.length) (hM0 : M'.2.2.2.2 = []) (hd' : d' < d) (hmx : M'.2.2.1 ≤ 81)
    (hM : SM SR M' d' bc' bs' (.ref b :: as) h n Post') (hb : h b = .inr (ci, fs)) (hci : CN ci = M'.1.cls) (hst : (st.map fun v => v.category).sum ≤ 8) (hb1 : bc' ≤ bc) (hb2 : bs' ≤ bs)
    (kk : ∀ v h' n', n ≤ n' → Post' (.inl v) h' n' → SW SR M d (bc - bc') (bs - bs') (pc + 3) lv (v.toList ++ st) h' n' Post) (kx : ∀ E h' n', n ≤ n' → Post' (.inr E) h' n' → SWX SR M d (bc - bc') (bs - bs') pc lv E h' n' Post) : SW SR M d bc bs pc lv (as.reverse ++ .ref b :: st) h n Post := by
  intro G p l e R s m args below meth c A ad0 n0 Q hc hr he H locs cells slots ls ad hm hl hx hbc hbs
  obtain ⟨hx1, hb9, hr1, hml1, hown1, hts1, hlk1, htb1, hlt1, hin1, hK1, hN1, hSR1, hAO1, hC1, hA1⟩ := id hc
  have hbn : b < n := hl.2.2 (.ref b) (List.mem_append_right _ List.mem_cons_self) b rfl
  have has : ∀ v ∈ Value.ref b :: as, clV n v := fun v hv => (List.mem_cons.mp hv).elim (fun q => by rw [q]; exact hl.2.2 _ (List.mem_append_right _ List.mem_cons_self)) (fun q => hl.2.2 v (List.mem_append_left _ (List.mem_reverse.mpr q)))
  have hl9 : LM ad M.2.2.1 n lv st ls := hl.stk (fun v hv => hl.2.2 v (List.mem_append_right _ (List.mem_cons_of_mem _ hv)))
  have hMet := hM l hlt1 G ad H.size has
  have hcw : cwM M' = Cond.code M'.1 M'.2.1 M'.2.2.1 M'.2.2.2.1 := by unfold cwM; rw [if_pos hM0]
  have hlen9 : (as.map (em ad)).length = as.length := List.length_map ..
  refine run_go hc hr he hm hl9 hx hbc hbs hb1 hb2 (a := ((Value.ref (ad b) :: as.map (em ad))).toArray) ?_ kk kx
  refine vx_runV (Ts := GT) (own := M.1.cls) (C := M'.1.cls) (cc := M.2.1) (nL := M.2.2.1) (bytes := M'.2.1) (maxL := M'.2.2.1) (ret := M'.2.2.2.1) (As := as.map (em ad)) ⟨hx1, hb9, hml1, hown1, hts1⟩ hMet
    (cwV (ws' := GT) as.length hts1 (fun w hw => ?_) (by rw [← hcw]; rfl) rfl rfl ⟨rfl, (notMH_spec hmh).1, (notMH_spec hmh).2, hpar⟩ (rm_ok hr hd' hmx)) ⟨picU_blind, hci ▸ recv_at hc hm hb hbn, fun U hU hW => ⟨rfl, picU_at hc hm hU hW⟩⟩ rfl hlen9 hl.1.1 stk_map (by show 2 * 0 + ((st.map (em ad)).map fun v => v.category).sum ≤ 8; rw [cat_map]; omega) hdg ⟨by omega, by omega⟩
  unfold wsV at hw
  simp only [List.cons_append, List.nil_append, List.mem_cons] at hw
  rcases hw with rfl | rfl | rfl | rfl | hw
  · exact ⟨hw1, good_of_word (GT_good _ hw1)⟩
  · exact ⟨hw2, good_of_word (GT_good _ hw2)⟩
  · exact ⟨hw3, good_of_word (GT_good _ hw3)⟩
  · exact ⟨hw4, good_of_word (GT_good _ hw4)⟩
  · exact wsM_GT hw5 w hw
theorem sw_callS (hdg : decode M.2.1 pc = .ok (.invokestatic idx, 3)) (hw1 : Cond.methodLink M.1.cls idx M'.1 ∈ GT) (hw2 : Cond.static M'.1 ∈ GT) (hw4 : Cond.initialized M'.1.cls ∈ GT) (hw5 : cwM M' ∈ GT) (hmh : notMH M'.1 = true) (hpar : (parseMethodDescriptor M'.1.desc).map (fun d => d.parameters.length) = some as.length) (hM0 : M'.2.2.2.2 = []) (hd' : d' < d) (hmx : M'.2.2.1 ≤ 81)
    (hM : SM SR M' d' bc' bs' as h n Post') (hst : (st.map fun v => v.category).sum ≤ 8) (hb1 : bc' ≤ bc) (hb2 : bs' ≤ bs)
    (kk : ∀ v h' n', n ≤ n' → Post' (.inl v) h' n' → SW SR M d (bc - bc') (bs - bs') (pc + 3) lv (v.toList ++ st) h' n' Post) (kx : ∀ E h' n', n ≤ n' → Post' (.inr E) h' n' → SWX SR M d (bc - bc') (bs - bs') pc lv E h' n' Post) : SW SR M d bc bs pc lv (as.reverse ++ st) h n Post := by
  intro G p l e R s m args below meth c A ad0 n0 Q hc hr he H locs cells slots ls ad hm hl hx hbc hbs
  obtain ⟨hx1, hb9, hr1, hml1, hown1, hts1, hlk1, htb1, hlt1, hin1, hK1, hN1, hSR1, hAO1, hC1, hA1⟩ := id hc
  have has : ∀ v ∈ as, clV n v := fun v hv => hl.2.2 v (List.mem_append_left _ (List.mem_reverse.mpr hv))
  have hl9 : LM ad M.2.2.1 n lv st ls := hl.stk (fun v hv => hl.2.2 v (List.mem_append_right _ hv))
  have hMet := hM l hlt1 G ad H.size has
  have hcw : cwM M' = Cond.code M'.1 M'.2.1 M'.2.2.1 M'.2.2.2.1 := by unfold cwM; rw [if_pos hM0]
  refine run_go hc hr he hm hl9 hx hbc hbs hb1 hb2 (a := (as.map (em ad)).toArray) ?_ kk kx
  refine vx_runS (Ts := GT) (own := M.1.cls) (cc := M.2.1) (nL := M.2.2.1) (bytes := M'.2.1) (maxL := M'.2.2.1) (ret := M'.2.2.2.1) (As := as.map (em ad)) ⟨hx1, hb9, hml1, hown1, hts1⟩ hMet
    (va_cwS (ws' := GT) as.length hts1 (fun w hw => ?_) (by rw [← hcw]; rfl) rfl rfl ⟨(notMH_spec hmh).1, (notMH_spec hmh).2, hpar⟩ (rm_ok hr hd' hmx)) ⟨picU_blind, fun U hU hW => ⟨rfl, picU_at hc hm hU hW⟩⟩ rfl (List.length_map ..) hl.1.1 stk_map0 (by show 2 * 0 + ((st.map (em ad)).map fun v => v.category).sum ≤ 8; rw [cat_map]; omega) hdg ⟨by omega, by omega⟩
  unfold va_wsS at hw
  simp only [List.cons_append, List.nil_append, List.mem_cons] at hw
  rcases hw with rfl | rfl | rfl | hw
  · exact ⟨hw1, good_of_word (GT_good _ hw1)⟩
  · exact ⟨hw2, good_of_word (GT_good _ hw2)⟩
  · exact ⟨hw4, good_of_word (GT_good _ hw4)⟩
  · exact wsM_GT hw5 w hw
/-- a static method with a table of its own -/
theorem sw_callSH (hdg : decode M.2.1 pc = .ok (.invokestatic idx, 3)) (hw1 : Cond.methodLink M.1.cls idx M'.1 ∈ GT) (hw2 : Cond.static M'.1 ∈ GT) (hw4 : Cond.initialized M'.1.cls ∈ GT) (hw5 : cwM M' ∈ GT) (hmh : notMH M'.1 = true) (hpar : (parseMethodDescriptor M'.1.desc).map (fun d => d.parameters.length) = some as.length) (hM0 : M'.2.2.2.2 ≠ []) (hd' : d' < d) (hmx : M'.2.2.1 ≤ 81)
    (hM : SM SR M' d' bc' bs' as h n Post') (hst : (st.map fun v => v.category).sum ≤ 8) (hb1 : bc' ≤ bc) (hb2 : bs' ≤ bs)
    (kk : ∀ v h' n', n ≤ n' → Post' (.inl v) h' n' → SW SR M d (bc - bc') (bs - bs') (pc + 3) lv (v.toList ++ st) h' n' Post) (kx : ∀ E h' n', n ≤ n' → Post' (.inr E) h' n' → SWX SR M d (bc - bc') (bs - bs') pc lv E h' n' Post) : SW SR M d bc bs pc lv (as.reverse ++ st) h n Post := by
  intro G p l e R s m args below meth c A ad0 n0 Q hc hr he H locs cells slots ls ad hm hl hx hbc hbs
  obtain ⟨hx1, hb9, hr1, hml1, hown1, hts1, hlk1, htb1, hlt1, hin1, hK1, hN1, hSR1, hAO1, hC1, hA1⟩ := id hc
  have has : ∀ v ∈ as, clV n v := fun v hv => hl.2.2 v (List.mem_append_left _ (List.mem_reverse.mpr hv))
  have hl9 : LM ad M.2.2.1 n lv st ls := hl.stk (fun v hv => hl.2.2 v (List.mem_append_right _ hv))
  have hMet := hM l hlt1 G ad H.size has
  have hcw : cwM M' = Cond.codeWith M'.1 M'.2.1 M'.2.2.1 M'.2.2.2.1 M'.2.2.2.2 := by unfold cwM; rw [if_neg hM0]
  refine run_go hc hr he hm hl9 hx hbc hbs hb1 hb2 (a := (as.map (em ad)).toArray) ?_ kk kx
  refine vx_runSX (Ts := GT) (own := M.1.cls) (cc := M.2.1) (nL := M.2.2.1) (bytes := M'.2.1) (maxL := M'.2.2.1) (ret := M'.2.2.2.1) (hh := M'.2.2.2.2) (As := as.map (em ad)) ⟨hx1, hb9, hml1, hown1, hts1⟩ hMet
    (vx_cwSW (ws' := GT) as.length hts1 (fun w hw => ?_) (by rw [← hcw]; rfl) rfl rfl ⟨(notMH_spec hmh).1, (notMH_spec hmh).2, hpar⟩ (rm_ok hr hd' hmx)) ⟨picU_blind, fun U hU hW => ⟨rfl, picU_at hc hm hU hW⟩⟩ rfl (List.length_map ..) hl.1.1 stk_map0 (by show 2 * 0 + ((st.map (em ad)).map fun v => v.category).sum ≤ 8; rw [cat_map]; omega) hdg ⟨by omega, by omega⟩
  unfold va_wsS at hw
  simp only [List.cons_append, List.nil_append, List.mem_cons] at hw
  rcases hw with rfl | rfl | rfl | hw
  · exact ⟨hw1, good_of_word (GT_good _ hw1)⟩
  · exact ⟨hw2, good_of_word (GT_good _ hw2)⟩
  · exact ⟨hw4, good_of_word (GT_good _ hw4)⟩
  · exact wsM_GT hw5 w hw
/-- a constructor -/
theorem sw_callI {b : Nat} (hdg : decode M.2.1 pc = .ok (.invokespecial idx, 3)) (hw1 : Cond.methodLink M.1.cls idx M'.1 ∈ GT) (hw2 : Cond.instanceMethod M'.1 ∈ GT) (hw4 : Cond.initialized M'.1.cls ∈ GT) (hw5 : cwM M' ∈ GT) (hnm : M'.1.name = "<init>") (hret : M'.2.2.2.1 = none) (hmh : notMH M'.1 = true) (hpar : (parseMethodDescriptor M'.1.desc).map (fun d => d.parameters.length) = some as.length) (hM0 : M'.2.2.2.2 = []) (hd' : d' < d) (hmx : M'.2.2.1 ≤ 81)
    (hM : SM SR M' d' bc' bs' (.ref b :: as) h n Post') (hst : (st.map fun v => v.category).sum ≤ 8) (hb1 : bc' ≤ bc) (hb2 : bs' ≤ bs)
    (kk : ∀ v h' n', n ≤ n' → Post' (.inl v) h' n' → SW SR M d (bc - bc') (bs - bs') (pc + 3) lv (v.toList ++ st) h' n' Post) (kx : ∀ E h' n', n ≤ n' → Post' (.inr E) h' n' → SWX SR M d (bc - bc') (bs - bs') pc lv E h' n' Post) : SW SR M d bc bs pc lv (as.reverse ++ .ref b :: st) h n Post := by
  intro G p l e R s m args below meth c A ad0 n0 Q hc hr he H locs cells slots ls ad hm hl hx hbc hbs
  obtain ⟨hx1, hb9, hr1, hml1, hown1, hts1, hlk1, htb1, hlt1, hin1, hK1, hN1, hSR1, hAO1, hC1, hA1⟩ := id hc
  have has : ∀ v ∈ Value.ref b :: as, clV n v := fun v hv => (List.mem_cons.mp hv).elim (fun q => by rw [q]; exact hl.2.2 _ (List.mem_append_right _ List.mem_cons_self)) (fun q => hl.2.2 v (List.mem_append_left _ (List.mem_reverse.mpr q)))
  have hl9 : LM ad M.2.2.1 n lv st ls := hl.stk (fun v hv => hl.2.2 v (List.mem_append_right _ (List.mem_cons_of_mem _ hv)))
  have hMet := hM l hlt1 G ad H.size has
  have hcw : cwM M' = Cond.code M'.1 M'.2.1 M'.2.2.1 none := by unfold cwM; rw [if_pos hM0, hret]
  refine run_go hc hr he hm hl9 hx hbc hbs hb1 hb2 (a := ((Value.ref (ad b) :: as.map (em ad))).toArray) ?_ kk kx
  exact vx_runI (Ts := GT) (own := M.1.cls) (cc := M.2.1) (nL := M.2.2.1) (bytes := M'.2.1) (maxL := M'.2.2.1) (As := as.map (em ad)) ⟨hx1, hb9, hml1, hown1, hts1⟩ hMet
    (cwI (ws' := GT) as.length hts1 (wsM_GT hw5) (by rw [← hcw]; rfl) rfl rfl (hts1 _ hw4) (hts1 _ hw1) (hts1 _ hw2) hnm ⟨(notMH_spec hmh).1, (notMH_spec hmh).2, hpar⟩ (rm_ok hr hd' hmx)) ⟨picU_blind, fun U hU hW => ⟨rfl, picU_at hc hm hU hW⟩⟩ rfl (List.length_map ..) hl.1.1 stk_map (by show 2 * 0 + ((st.map (em ad)).map fun v => v.category).sum ≤ 8; rw [cat_map]; omega) hdg ⟨by omega, by omega⟩
/-- a private constructor of a nest mate -/
theorem sw_callIN {b : Nat} {host : String} (hdg : decode M.2.1 pc = .ok (.invokespecial idx, 3)) (hw1 : Cond.methodLinkNest M.1.cls idx M'.1 host ∈ NW) (hw2 : Cond.instanceMethod M'.1 ∈ GT) (hw4 : Cond.initialized M'.1.cls ∈ GT) (hw5 : cwM M' ∈ GT) (hnm : M'.1.name = "<init>") (hret : M'.2.2.2.1 = none) (hmh : notMH M'.1 = true) (hpar : (parseMethodDescriptor M'.1.desc).map (fun d => d.parameters.length) = some as.length) (hM0 : M'.2.2.2.2 = []) (hd' : d' < d) (hmx : M'.2.2.1 ≤ 81)
    (hM : SM SR M' d' bc' bs' (.ref b :: as) h n Post') (hst : (st.map fun v => v.category).sum ≤ 8) (hb1 : bc' ≤ bc) (hb2 : bs' ≤ bs)
    (kk : ∀ v h' n', n ≤ n' → Post' (.inl v) h' n' → SW SR M d (bc - bc') (bs - bs') (pc + 3) lv (v.toList ++ st) h' n' Post) (kx : ∀ E h' n', n ≤ n' → Post' (.inr E) h' n' → SWX SR M d (bc - bc') (bs - bs') pc lv E h' n' Post) : SW SR M d bc bs pc lv (as.reverse ++ .ref b :: st) h n Post := by
  intro G p l e R s m args below meth c A ad0 n0 Q hc hr he H locs cells slots ls ad hm hl hx hbc hbs
  obtain ⟨hx1, hb9, hr1, hml1, hown1, hts1, hlk1, htb1, hlt1, hin1, hK1, hN1, hSR1, hAO1, hC1, hA1⟩ := id hc
  have has : ∀ v ∈ Value.ref b :: as, clV n v := fun v hv => (List.mem_cons.mp hv).elim (fun q => by rw [q]; exact hl.2.2 _ (List.mem_append_right _ List.mem_cons_self)) (fun q => hl.2.2 v (List.mem_append_left _ (List.mem_reverse.mpr q)))
  have hl9 : LM ad M.2.2.1 n lv st ls := hl.stk (fun v hv => hl.2.2 v (List.mem_append_right _ (List.mem_cons_of_mem _ hv)))
  have hMet := hM l hlt1 G ad H.size has
  have hcw : cwM M' = Cond.code M'.1 M'.2.1 M'.2.2.1 none := by unfold cwM; rw [if_pos hM0, hret]
  refine run_go hc hr he hm hl9 hx hbc hbs hb1 hb2 (a := ((Value.ref (ad b) :: as.map (em ad))).toArray) ?_ kk kx
  exact vx_runIN (Ts := GT) (own := M.1.cls) (host := host) (cc := M.2.1) (nL := M.2.2.1) (bytes := M'.2.1) (maxL := M'.2.2.1) (As := as.map (em ad)) ⟨hx1, hb9, hml1, hown1, hts1⟩ hMet
    ⟨va_cnB (ws' := GT) as.length hts1 (wsM_GT hw5) (by rw [← hcw]; rfl) rfl rfl (hN1 _ hw1) (hts1 _ hw4) ⟨(notMH_spec hmh).1, (notMH_spec hmh).2, hpar⟩ (rm_ok hr hd' hmx), hnm, hts1 _ hw2⟩ ⟨picU_blind, fun U hU hW => ⟨rfl, picU_at hc hm hU hW⟩⟩ rfl (List.length_map ..) hl.1.1 stk_map (by show 2 * 0 + ((st.map (em ad)).map fun v => v.category).sum ≤ 8; rw [cat_map]; omega) hdg ⟨by omega, by omega⟩
end
end
section
/-! the methods; the texts; short forms of the calls -/
theorem gtm {w : Cond} {i : Nat} (h1 : lw_tbl[i]? = some w) (h2 : goodWord w = true) : w ∈ GT := List.mem_filter.mpr ⟨List.mem_of_getElem? h1, h2⟩
def MOK (M : MI) (k : Nat) : Prop := Cond.initialized M.1.cls ∈ GT ∧ cwM M ∈ GT ∧ notMH M.1 = true ∧ (parseMethodDescriptor M.1.desc).map (fun d => d.parameters.length) = some k ∧ M.2.2.1 ≤ 81
def MOKv (M : MI) (k : Nat) : Prop := MOK M k ∧ M.2.2.2.2 = [] ∧ Cond.instanceMethod M.1 ∈ GT ∧ Cond.selects M.1.cls M.1 M.1 ∈ GT
def MOKs (M : MI) (k : Nat) : Prop := MOK M k ∧ Cond.static M.1 ∈ GT
def MOKi (M : MI) (k : Nat) : Prop := MOK M k ∧ M.2.2.2.2 = [] ∧ Cond.instanceMethod M.1 ∈ GT ∧ M.1.name = "<init>" ∧ M.2.2.2.1 = none
/-- one end, as said -/
def Det (r : ARes) (h : AH) (n : Nat) : ARes → AH → Nat → Prop := fun r' h' n' => r' = r ∧ h' = h ∧ n' = n
section
variable {SR : SRT} {M M' : MI} {d d' bc bs bc' bs' pc idx n : Nat} {lv : List (Nat × Value)} {st as : List Value} {h : AH} {Post Post' : ARes → AH → Nat → Prop}
theorem sw_nm (k : ∀ h', h' = h → SW SR M d bc bs pc lv st h' n Post) : SW SR M d bc bs pc lv st h n Post := k h rfl
theorem sw_V {b ci : Nat} {fs : List Value} (hdg : decode M.2.1 pc = .ok (.invokevirtual idx, 3)) (hw1 : Cond.methodLink M.1.cls idx M'.1 ∈ GT) (ok : MOKv M' as.length) (hM : SM SR M' d' bc' bs' (.ref b :: as) h n Post') (hb : h b = .inr (ci, fs)) (hci : CN ci = M'.1.cls) (hd' : d' < d) (hst : (st.map fun v => v.category).sum ≤ 8) (hb1 : bc' ≤ bc) (hb2 : bs' ≤ bs)
    (kx : ∀ E h' n', n ≤ n' → Post' (.inr E) h' n' → SWX SR M d (bc - bc') (bs - bs') pc lv E h' n' Post) (kk : ∀ v h' n', n ≤ n' → Post' (.inl v) h' n' → SW SR M d (bc - bc') (bs - bs') (pc + 3) lv (v.toList ++ st) h' n' Post) : SW SR M d bc bs pc lv (as.reverse ++ .ref b :: st) h n Post :=
  sw_callV hdg hw1 ok.2.2.1 ok.2.2.2 ok.1.1 ok.1.2.1 ok.1.2.2.1 ok.1.2.2.2.1 ok.2.1 hd' ok.1.2.2.2.2 hM hb hci hst hb1 hb2 kk kx
theorem sw_S (hdg : decode M.2.1 pc = .ok (.invokestatic idx, 3)) (hw1 : Cond.methodLink M.1.cls idx M'.1 ∈ GT) (ok : MOKs M' as.length) (hM : SM SR M' d' bc' bs' as h n Post') (hd' : d' < d) (hst : (st.map fun v => v.category).sum ≤ 8) (hb1 : bc' ≤ bc) (hb2 : bs' ≤ bs)
    (kx : ∀ E h' n', n ≤ n' → Post' (.inr E) h' n' → SWX SR M d (bc - bc') (bs - bs') pc lv E h' n' Post) (kk : ∀ v h' n', n ≤ n' → Post' (.inl v) h' n' → SW SR M d (bc - bc') (bs - bs') (pc + 3) lv (v.toList ++ st) h' n' Post) : SW SR M d bc bs pc lv (as.reverse ++ st) h n Post := by
  by_cases q : M'.2.2.2.2 = []
  · exact sw_callS hdg hw1 ok.2 ok.1.1 ok.1.2.1 ok.1.2.2.1 ok.1.2.2.2.1 q hd' ok.1.2.2.2.2 hM hst hb1 hb2 kk kx
  · exact sw_callSH hdg hw1 ok.2 ok.1.1 ok.1.2.1 ok.1.2.2.1 ok.1.2.2.2.1 q hd' ok.1.2.2.2.2 hM hst hb1 hb2 kk kx
theorem sw_I {b : Nat} (hdg : decode M.2.1 pc = .ok (.invokespecial idx, 3)) (hw1 : Cond.methodLink M.1.cls idx M'.1 ∈ GT) (ok : MOKi M' as.length) (hM : SM SR M' d' bc' bs' (.ref b :: as) h n Post') (hd' : d' < d) (hst : (st.map fun v => v.category).sum ≤ 8) (hb1 : bc' ≤ bc) (hb2 : bs' ≤ bs)
    (kx : ∀ E h' n', n ≤ n' → Post' (.inr E) h' n' → SWX SR M d (bc - bc') (bs - bs') pc lv E h' n' Post) (kk : ∀ v h' n', n ≤ n' → Post' (.inl v) h' n' → SW SR M d (bc - bc') (bs - bs') (pc + 3) lv (v.toList ++ st) h' n' Post) : SW SR M d bc bs pc lv (as.reverse ++ .ref b :: st) h n Post :=
  sw_callI hdg hw1 ok.2.2.1 ok.1.1 ok.1.2.1 ok.2.2.2.1 ok.2.2.2.2 ok.1.2.2.1 ok.1.2.2.2.1 ok.2.1 hd' ok.1.2.2.2.2 hM hst hb1 hb2 kk kx
end
/-- a callee that comes to one end: the row behind the call -/
theorem det_k {A : Nat → AH → Option Value → Prop} {r : Option Value} {h0 : AH} {n0 n : Nat} (k : A n0 h0 r) : ∀ (v : Option Value) (h' : AH) (n' : Nat), n ≤ n' → Det (.inl r) h0 n0 (.inl v) h' n' → A n' h' v := by
  rintro v h' n' - ⟨e1, rfl, rfl⟩
  cases e1
  exact k
theorem det_x {A : Prop} {r : Option Value} {h0 : AH} {n0 : Nat} {E : String} {h' : AH} {n' : Nat} (z : Det (.inl r) h0 n0 (.inr E) h' n') : A := by cases z.1

def MX1_init : MI := (yX1_init, cX1_init, 2, (Option.none : Option Jvm.ClassFile.FieldType), [])
def MX1_isOfTable : MI := (yX1_isOfTable, cX1_isOfTable, 1, (Option.some Jvm.ClassFile.FieldType.boolean), [])
def MX1_takesIn : MI := (yX1_takesIn, cX1_takesIn, 2, (Option.some Jvm.ClassFile.FieldType.boolean), [])
def MX1_thingAt : MI := (yX1_thingAt, cX1_thingAt, 2, (Option.some Jvm.ClassFile.FieldType.int), [])
def MX1_firstPlace : MI := (yX1_firstPlace, cX1_firstPlace, 3, (Option.some Jvm.ClassFile.FieldType.int), [])
def MX1_lastPlace : MI := (yX1_lastPlace, cX1_lastPlace, 3, (Option.some Jvm.ClassFile.FieldType.int), [])
def MX1_holds : MI := (yX1_holds, cX1_holds, 2, (Option.some Jvm.ClassFile.FieldType.boolean), [])
def MX1_countOf : MI := (yX1_countOf, cX1_countOf, 4, (Option.some Jvm.ClassFile.FieldType.int), [])
def MX1_risingPlace : MI := (yX1_risingPlace, cX1_risingPlace, 3, (Option.some Jvm.ClassFile.FieldType.int), [])
def MX1_layDown : MI := (yX1_layDown, cX1_layDown, 2, (Option.some Jvm.ClassFile.FieldType.boolean), [])
def MX1_layAhead : MI := (yX1_layAhead, cX1_layAhead, 4, (Option.some Jvm.ClassFile.FieldType.boolean), [])
def MX1_lift : MI := (yX1_lift, cX1_lift, 4, (Option.some Jvm.ClassFile.FieldType.int), [])
def MX1_liftAll : MI := (yX1_liftAll, cX1_liftAll, 1, (Option.none : Option Jvm.ClassFile.FieldType), [])
def MX1_exchange : MI := (yX1_exchange, cX1_exchange, 4, (Option.some Jvm.ClassFile.FieldType.int), [])
def MX1_reverse : MI := (yX1_reverse, cX1_reverse, 5, (Option.none : Option Jvm.ClassFile.FieldType), [])
def MX1_moveOn : MI := (yX1_moveOn, cX1_moveOn, 2, (Option.none : Option Jvm.ClassFile.FieldType), [])
def MX1_becomeListOf : MI := (yX1_becomeListOf, cX1_becomeListOf, 5, (Option.none : Option Jvm.ClassFile.FieldType), [])
def MX1_rises : MI := (yX1_rises, cX1_rises, 2, (Option.some Jvm.ClassFile.FieldType.boolean), [])
def MX1_hasEachOnce : MI := (yX1_hasEachOnce, cX1_hasEachOnce, 2, (Option.some Jvm.ClassFile.FieldType.boolean), [])
def MX2_init : MI := (yX2_init, cX2_init, 2, (Option.none : Option Jvm.ClassFile.FieldType), [])
def MX2_begin : MI := (yX2_begin, cX2_begin, 4, (Option.none : Option Jvm.ClassFile.FieldType), [])
def MX2_isStale : MI := (yX2_isStale, cX2_isStale, 1, (Option.some Jvm.ClassFile.FieldType.boolean), [])
def MX2_ahead : MI := (yX2_ahead, cX2_ahead, 1, (Option.some Jvm.ClassFile.FieldType.int), [])
def MX2_hasMore : MI := (yX2_hasMore, cX2_hasMore, 1, (Option.some Jvm.ClassFile.FieldType.boolean), [])
def MX2_canGiveAll : MI := (yX2_canGiveAll, cX2_canGiveAll, 1, (Option.some Jvm.ClassFile.FieldType.boolean), [])
def MX2_canTakeOut : MI := (yX2_canTakeOut, cX2_canTakeOut, 1, (Option.some Jvm.ClassFile.FieldType.boolean), [])
def MX2_give : MI := (yX2_give, cX2_give, 2, (Option.some Jvm.ClassFile.FieldType.int), [])
def MX2_giveUpTo : MI := (yX2_giveUpTo, cX2_giveUpTo, 3, (Option.some Jvm.ClassFile.FieldType.int), [])
def MX2_tookOut : MI := (yX2_tookOut, cX2_tookOut, 1, (Option.none : Option Jvm.ClassFile.FieldType), [])
def MX3_init : MI := (yX3_init, cX3_init, 2, (Option.none : Option Jvm.ClassFile.FieldType), [])
def MX3_put : MI := (yX3_put, cX3_put, 4, (Option.some Jvm.ClassFile.FieldType.int), [])
def MX3_putAll : MI := (yX3_putAll, cX3_putAll, 10, (Option.some Jvm.ClassFile.FieldType.int), [])
def MX3_take : MI := (yX3_take, cX3_take, 5, (Option.some Jvm.ClassFile.FieldType.int), [])
def MX3_clear : MI := (yX3_clear, cX3_clear, 4, (Option.some Jvm.ClassFile.FieldType.int), [])
def MX3_pair : MI := (yX3_pair, cX3_pair, 6, (Option.some Jvm.ClassFile.FieldType.int), [])
def MX3_pour : MI := (yX3_pour, cX3_pour, 5, (Option.some Jvm.ClassFile.FieldType.int), [])
def MX3_change : MI := (yX3_change, cX3_change, 5, (Option.some Jvm.ClassFile.FieldType.int), [])
def MX3_insert : MI := (yX3_insert, cX3_insert, 5, (Option.some Jvm.ClassFile.FieldType.int), [])
def MX3_remove : MI := (yX3_remove, cX3_remove, 4, (Option.some Jvm.ClassFile.FieldType.int), [])
def MX3_turn : MI := (yX3_turn, cX3_turn, 3, (Option.some Jvm.ClassFile.FieldType.int), [])
def MX3_rotate : MI := (yX3_rotate, cX3_rotate, 4, (Option.some Jvm.ClassFile.FieldType.int), [])
def MX3_swap : MI := (yX3_swap, cX3_swap, 5, (Option.some Jvm.ClassFile.FieldType.int), [])
def MX3_fill : MI := (yX3_fill, cX3_fill, 5, (Option.some Jvm.ClassFile.FieldType.int), [])
def MX3_replace : MI := (yX3_replace, cX3_replace, 7, (Option.some Jvm.ClassFile.FieldType.int), [])
def MX3_copies : MI := (yX3_copies, cX3_copies, 6, (Option.some Jvm.ClassFile.FieldType.int), [])
def MX3_walk : MI := (yX3_walk, cX3_walk, 6, (Option.some Jvm.ClassFile.FieldType.int), [])
def MX3_next : MI := (yX3_next, cX3_next, 3, (Option.some Jvm.ClassFile.FieldType.int), [])
def MX3_more : MI := (yX3_more, cX3_more, 3, (Option.some Jvm.ClassFile.FieldType.int), [])
def MX3_takeOut : MI := (yX3_takeOut, cX3_takeOut, 3, (Option.some Jvm.ClassFile.FieldType.int), [])
def MX3_rest : MI := (yX3_rest, cX3_rest, 4, (Option.some (Jvm.ClassFile.FieldType.object "java/lang/String")), [])
def MX3_keepRest : MI := (yX3_keepRest, cX3_keepRest, 5, (Option.some Jvm.ClassFile.FieldType.int), [])
def MX3_keep : MI := (yX3_keep, cX3_keep, 4, (Option.some Jvm.ClassFile.FieldType.int), [])
def MX3_drop : MI := (yX3_drop, cX3_drop, 4, (Option.some Jvm.ClassFile.FieldType.int), [])
def MX3_skip : MI := (yX3_skip, cX3_skip, 4, (Option.some Jvm.ClassFile.FieldType.int), [])
def MX3_pourRest : MI := (yX3_pourRest, cX3_pourRest, 7, (Option.some Jvm.ClassFile.FieldType.int), [])
def MX3_zip : MI := (yX3_zip, cX3_zip, 7, (Option.some (Jvm.ClassFile.FieldType.object "java/lang/String")), [])
def MX3_text : MI := (yX3_text, cX3_text, 2, (Option.some (Jvm.ClassFile.FieldType.object "java/lang/String")), [])
def MX3_list : MI := (yX3_list, cX3_list, 2, (Option.some (Jvm.ClassFile.FieldType.object "java/lang/String")), [])
def MX3_size : MI := (yX3_size, cX3_size, 2, (Option.some Jvm.ClassFile.FieldType.int), [])
def MX3_isEmpty : MI := (yX3_isEmpty, cX3_isEmpty, 2, (Option.some Jvm.ClassFile.FieldType.boolean), [])
def MX3_has : MI := (yX3_has, cX3_has, 4, (Option.some Jvm.ClassFile.FieldType.int), [])
def MX3_often : MI := (yX3_often, cX3_often, 4, (Option.some Jvm.ClassFile.FieldType.int), [])
def MX3_placeOf : MI := (yX3_placeOf, cX3_placeOf, 5, (Option.some Jvm.ClassFile.FieldType.int), [])
def MX3_disjoint : MI := (yX3_disjoint, cX3_disjoint, 6, (Option.some Jvm.ClassFile.FieldType.int), [])
def MX3_end : MI := (yX3_end, cX3_end, 7, (Option.some Jvm.ClassFile.FieldType.int), [])
def MX3_code : MI := (yX3_code, cX3_code, 6, (Option.some Jvm.ClassFile.FieldType.int), [])
def MX3_areAlike : MI := (yX3_areAlike, cX3_areAlike, 5, (Option.some Jvm.ClassFile.FieldType.boolean), [])
def MX3_first : MI := (yX3_first, cX3_first, 4, (Option.some Jvm.ClassFile.FieldType.int), [])
def MX3_valueOf : MI := (yX3_valueOf, cX3_valueOf, 3, (Option.some Jvm.ClassFile.FieldType.int), [])
def MX3_ofWalk : MI := (yX3_ofWalk, cX3_ofWalk, 4, (Option.some Jvm.ClassFile.FieldType.int), [])
def MX3_house : MI := (yX3_house, cX3_house, 2, (Option.some Jvm.ClassFile.FieldType.int), [])
def MX3_knock : MI := (yX3_knock, cX3_knock, 1, (Option.some Jvm.ClassFile.FieldType.int), [])
def MX3_isSound : MI := (yX3_isSound, cX3_isSound, 2, (Option.some Jvm.ClassFile.FieldType.boolean), [])
def MX3_digest : MI := (yX3_digest, cX3_digest, 6, (Option.some Jvm.ClassFile.FieldType.long), [])
def MX3_shelfAt : MI := (yX3_shelfAt, cX3_shelfAt, 2, (Option.some (Jvm.ClassFile.FieldType.object "Overwalks$Shelf")), [])
def MX3_rowAt : MI := (yX3_rowAt, cX3_rowAt, 3, (Option.some (Jvm.ClassFile.FieldType.object "Overwalks$Shelf")), [])
def MX3_listAt : MI := (yX3_listAt, cX3_listAt, 2, (Option.some (Jvm.ClassFile.FieldType.object "Overwalks$Shelf")), [])
def MX3_walkAt : MI := (yX3_walkAt, cX3_walkAt, 2, (Option.some (Jvm.ClassFile.FieldType.object "Overwalks$Walk")), [])
def MX3_requireMade : MI := (yX3_requireMade, cX3_requireMade, 1, (Option.none : Option Jvm.ClassFile.FieldType), [])
def MX3_requirePlace : MI := (yX3_requirePlace, cX3_requirePlace, 2, (Option.none : Option Jvm.ClassFile.FieldType), [])
def MX3_requireThing : MI := (yX3_requireThing, cX3_requireThing, 1, (Option.none : Option Jvm.ClassFile.FieldType), [])
def MX3_requireThingOrNothing : MI := (yX3_requireThingOrNothing, cX3_requireThingOrNothing, 1, (Option.none : Option Jvm.ClassFile.FieldType), [])
def MX3_requireThingNothingOrNone : MI := (yX3_requireThingNothingOrNone, cX3_requireThingNothingOrNone, 1, (Option.none : Option Jvm.ClassFile.FieldType), [])
def MX3_requireUpToRoom : MI := (yX3_requireUpToRoom, cX3_requireUpToRoom, 1, (Option.none : Option Jvm.ClassFile.FieldType), [])
def MX3_requireRoom : MI := (yX3_requireRoom, cX3_requireRoom, 2, (Option.none : Option Jvm.ClassFile.FieldType), [])
def MX3_refuse : MI := (yX3_refuse, cX3_refuse, 1, (Option.some Jvm.ClassFile.FieldType.int), [])
def MX3_oneIf : MI := (yX3_oneIf, cX3_oneIf, 1, (Option.some Jvm.ClassFile.FieldType.int), [])
def MX3_countToFirstNone : MI := (yX3_countToFirstNone, cX3_countToFirstNone, 5, (Option.some Jvm.ClassFile.FieldType.int), [])
def MX3_oneOfFour : MI := (yX3_oneOfFour, cX3_oneOfFour, 5, (Option.some Jvm.ClassFile.FieldType.int), [])
def MX3_liftFrom : MI := (yX3_liftFrom, cX3_liftFrom, 3, (Option.none : Option Jvm.ClassFile.FieldType), [])
def MX3_cannotPour : MI := (yX3_cannotPour, cX3_cannotPour, 2, (Option.some Jvm.ClassFile.FieldType.boolean), [])
def MX3_hasNothingsThatAreNotTaken : MI := (yX3_hasNothingsThatAreNotTaken, cX3_hasNothingsThatAreNotTaken, 2, (Option.some Jvm.ClassFile.FieldType.boolean), [])
def MX3_pourBehind : MI := (yX3_pourBehind, cX3_pourBehind, 6, (Option.some Jvm.ClassFile.FieldType.boolean), [])
def MX3_listRest : MI := (yX3_listRest, cX3_listRest, 2, (Option.some Jvm.ClassFile.FieldType.int), [])
def MX3_haveTheSame : MI := (yX3_haveTheSame, cX3_haveTheSame, 3, (Option.some Jvm.ClassFile.FieldType.boolean), [])
def MX3_textBehind : MI := (yX3_textBehind, cX3_textBehind, 4, (Option.some (Jvm.ClassFile.FieldType.object "java/lang/String")), [])
def MX3_appendBlankBehindFirst : MI := (yX3_appendBlankBehindFirst, cX3_appendBlankBehindFirst, 2, (Option.none : Option Jvm.ClassFile.FieldType), [])
def MX3_appendThing : MI := (yX3_appendThing, cX3_appendThing, 2, (Option.none : Option Jvm.ClassFile.FieldType), [])
def MX3_countThings : MI := (yX3_countThings, cX3_countThings, 3, (Option.some Jvm.ClassFile.FieldType.int), [])
def MX3_countNothings : MI := (yX3_countNothings, cX3_countNothings, 3, (Option.some Jvm.ClassFile.FieldType.int), [])
def MX3_countWalks : MI := (yX3_countWalks, cX3_countWalks, 3, (Option.some Jvm.ClassFile.FieldType.int), [])
def MX3_countStaleWalks : MI := (yX3_countStaleWalks, cX3_countStaleWalks, 3, (Option.some Jvm.ClassFile.FieldType.int), [])
def MX3_giveTheSame : MI := (yX3_giveTheSame, cX3_giveTheSame, 6, (Option.some Jvm.ClassFile.FieldType.boolean), [])
def MX3_isItsList : MI := (yX3_isItsList, cX3_isItsList, 2, (Option.some Jvm.ClassFile.FieldType.boolean), [])
def MX3_isItsListBehindOneStep : MI := (yX3_isItsListBehindOneStep, cX3_isItsListBehindOneStep, 4, (Option.some Jvm.ClassFile.FieldType.boolean), [])
def MX4_init : MI := (yX4_init, cX4_init, 1, (Option.none : Option Jvm.ClassFile.FieldType), [])
def MX5_init : MI := (yX5_init, cX5_init, 1, (Option.none : Option Jvm.ClassFile.FieldType), [])
def MX5_thrown : MI := (yX5_thrown, cX5_thrown, 1, (Option.some Jvm.ClassFile.FieldType.int), [])
def MX5_isIn : MI := (yX5_isIn, cX5_isIn, 3, (Option.some Jvm.ClassFile.FieldType.boolean), [])
def MX5_one : MI := (yX5_one, cX5_one, 1, (Option.some Jvm.ClassFile.FieldType.int), [])
def MX5_isStopped : MI := (yX5_isStopped, cX5_isStopped, 4, (Option.some Jvm.ClassFile.FieldType.boolean), [])
def MX5_isStopped_ : MI := (yX5_isStopped_, cX5_isStopped_, 3, (Option.some Jvm.ClassFile.FieldType.boolean), [])
def MX5_isStopped__ : MI := (yX5_isStopped__, cX5_isStopped__, 2, (Option.some Jvm.ClassFile.FieldType.boolean), [])
def MX5_no : MI := (yX5_no, cX5_no, 1, (Option.some Jvm.ClassFile.FieldType.int), [])
def MX5_noText : MI := (yX5_noText, cX5_noText, 1, (Option.some (Jvm.ClassFile.FieldType.object "java/lang/String")), [])
def MX5_isNone : MI := (yX5_isNone, cX5_isNone, 1, (Option.some Jvm.ClassFile.FieldType.boolean), [])
def MX5_isNoRow : MI := (yX5_isNoRow, cX5_isNoRow, 1, (Option.some Jvm.ClassFile.FieldType.boolean), [])
def MX5_isNoList : MI := (yX5_isNoList, cX5_isNoList, 1, (Option.some Jvm.ClassFile.FieldType.boolean), [])
def MX5_isNoThing : MI := (yX5_isNoThing, cX5_isNoThing, 1, (Option.some Jvm.ClassFile.FieldType.boolean), [])
def MX5_isTable : MI := (yX5_isTable, cX5_isTable, 1, (Option.some Jvm.ClassFile.FieldType.boolean), [])
def MX5_takesNothing : MI := (yX5_takesNothing, cX5_takesNothing, 1, (Option.some Jvm.ClassFile.FieldType.boolean), [])
def MX5_isNoPlace : MI := (yX5_isNoPlace, cX5_isNoPlace, 3, (Option.some Jvm.ClassFile.FieldType.boolean), [])
def MX5_hasNothing : MI := (yX5_hasNothing, cX5_hasNothing, 2, (Option.some Jvm.ClassFile.FieldType.boolean), [])
def MX5_count : MI := (yX5_count, cX5_count, 5, (Option.some Jvm.ClassFile.FieldType.int), [])
def MX5_firstPlace : MI := (yX5_firstPlace, cX5_firstPlace, 5, (Option.some Jvm.ClassFile.FieldType.int), [])
def MX5_comeAt : MI := (yX5_comeAt, cX5_comeAt, 5, (Option.none : Option Jvm.ClassFile.FieldType), [])
def MX5_goAt : MI := (yX5_goAt, cX5_goAt, 4, (Option.none : Option Jvm.ClassFile.FieldType), [])
def MX5_leave : MI := (yX5_leave, cX5_leave, 3, (Option.none : Option Jvm.ClassFile.FieldType), [])
def MX5_come : MI := (yX5_come, cX5_come, 4, (Option.some Jvm.ClassFile.FieldType.boolean), [])
def MX5_comeAll : MI := (yX5_comeAll, cX5_comeAll, 6, (Option.some Jvm.ClassFile.FieldType.int), [])
def MX5_picture : MI := (yX5_picture, cX5_picture, 5, (Option.some (Jvm.ClassFile.FieldType.array Jvm.ClassFile.FieldType.int)), [])
def MX5_empty : MI := (yX5_empty, cX5_empty, 2, (Option.none : Option Jvm.ClassFile.FieldType), [])
def MX5_put : MI := (yX5_put, cX5_put, 3, (Option.some Jvm.ClassFile.FieldType.int), [])
def MX5_putAll : MI := (yX5_putAll, cX5_putAll, 12, (Option.some Jvm.ClassFile.FieldType.int), [])
def MX5_take : MI := (yX5_take, cX5_take, 4, (Option.some Jvm.ClassFile.FieldType.int), [])
def MX5_clear : MI := (yX5_clear, cX5_clear, 3, (Option.some Jvm.ClassFile.FieldType.int), [])
def MX5_pair : MI := (yX5_pair, cX5_pair, 5, (Option.some Jvm.ClassFile.FieldType.int), [])
def MX5_pour : MI := (yX5_pour, cX5_pour, 4, (Option.some Jvm.ClassFile.FieldType.int), [])
def MX5_change : MI := (yX5_change, cX5_change, 5, (Option.some Jvm.ClassFile.FieldType.int), [])
def MX5_insert : MI := (yX5_insert, cX5_insert, 4, (Option.some Jvm.ClassFile.FieldType.int), [])
def MX5_remove : MI := (yX5_remove, cX5_remove, 4, (Option.some Jvm.ClassFile.FieldType.int), [])
def MX5_turn : MI := (yX5_turn, cX5_turn, 4, (Option.some Jvm.ClassFile.FieldType.int), [])
def MX5_rotate : MI := (yX5_rotate, cX5_rotate, 5, (Option.some Jvm.ClassFile.FieldType.int), [])
def MX5_swap : MI := (yX5_swap, cX5_swap, 5, (Option.some Jvm.ClassFile.FieldType.int), [])
def MX5_fill : MI := (yX5_fill, cX5_fill, 4, (Option.some Jvm.ClassFile.FieldType.int), [])
def MX5_replace : MI := (yX5_replace, cX5_replace, 6, (Option.some Jvm.ClassFile.FieldType.int), [])
def MX5_copies : MI := (yX5_copies, cX5_copies, 5, (Option.some Jvm.ClassFile.FieldType.int), [])
def MX5_isNoWalk : MI := (yX5_isNoWalk, cX5_isNoWalk, 1, (Option.some Jvm.ClassFile.FieldType.boolean), [])
def MX5_isUnmade : MI := (yX5_isUnmade, cX5_isUnmade, 2, (Option.some Jvm.ClassFile.FieldType.boolean), [])
def MX5_isStale : MI := (yX5_isStale, cX5_isStale, 2, (Option.some Jvm.ClassFile.FieldType.boolean), [])
def MX5_hasMore : MI := (yX5_hasMore, cX5_hasMore, 2, (Option.some Jvm.ClassFile.FieldType.boolean), [])
def MX5_give : MI := (yX5_give, cX5_give, 3, (Option.some Jvm.ClassFile.FieldType.int), [])
def MX5_walk : MI := (yX5_walk, cX5_walk, 4, (Option.some Jvm.ClassFile.FieldType.int), [])
def MX5_next : MI := (yX5_next, cX5_next, 2, (Option.some Jvm.ClassFile.FieldType.int), [])
def MX5_more : MI := (yX5_more, cX5_more, 2, (Option.some Jvm.ClassFile.FieldType.int), [])
def MX5_takeOut : MI := (yX5_takeOut, cX5_takeOut, 2, (Option.some Jvm.ClassFile.FieldType.int), [])
def MX5_left : MI := (yX5_left, cX5_left, 4, (Option.some (Jvm.ClassFile.FieldType.array Jvm.ClassFile.FieldType.int)), [])
def MX5_sign : MI := (yX5_sign, cX5_sign, 1, (Option.some (Jvm.ClassFile.FieldType.object "java/lang/String")), [])
def MX5_text : MI := (yX5_text, cX5_text, 3, (Option.some (Jvm.ClassFile.FieldType.object "java/lang/String")), [])
def MX5_rest : MI := (yX5_rest, cX5_rest, 2, (Option.some (Jvm.ClassFile.FieldType.object "java/lang/String")), [])
def MX5_made : MI := (yX5_made, cX5_made, 4, (Option.some Jvm.ClassFile.FieldType.int), [])
def MX5_keepRest : MI := (yX5_keepRest, cX5_keepRest, 3, (Option.some Jvm.ClassFile.FieldType.int), [])
def MX5_keep : MI := (yX5_keep, cX5_keep, 3, (Option.some Jvm.ClassFile.FieldType.int), [])
def MX5_drop : MI := (yX5_drop, cX5_drop, 3, (Option.some Jvm.ClassFile.FieldType.int), [])
def MX5_skip : MI := (yX5_skip, cX5_skip, 4, (Option.some Jvm.ClassFile.FieldType.int), [])
def MX5_pourRest : MI := (yX5_pourRest, cX5_pourRest, 5, (Option.some Jvm.ClassFile.FieldType.int), [])
def MX5_zip : MI := (yX5_zip, cX5_zip, 4, (Option.some (Jvm.ClassFile.FieldType.object "java/lang/String")), [])
def MX5_text_ : MI := (yX5_text_, cX5_text_, 2, (Option.some (Jvm.ClassFile.FieldType.object "java/lang/String")), [])
def MX5_list : MI := (yX5_list, cX5_list, 2, (Option.some (Jvm.ClassFile.FieldType.object "java/lang/String")), [])
def MX5_size : MI := (yX5_size, cX5_size, 2, (Option.some Jvm.ClassFile.FieldType.int), [])
def MX5_isEmpty : MI := (yX5_isEmpty, cX5_isEmpty, 2, (Option.some Jvm.ClassFile.FieldType.boolean), [])
def MX5_has : MI := (yX5_has, cX5_has, 3, (Option.some Jvm.ClassFile.FieldType.int), [])
def MX5_often : MI := (yX5_often, cX5_often, 3, (Option.some Jvm.ClassFile.FieldType.int), [])
def MX5_placeOf : MI := (yX5_placeOf, cX5_placeOf, 6, (Option.some Jvm.ClassFile.FieldType.int), [])
def MX5_disjoint : MI := (yX5_disjoint, cX5_disjoint, 5, (Option.some Jvm.ClassFile.FieldType.int), [])
def MX5_end : MI := (yX5_end, cX5_end, 5, (Option.some Jvm.ClassFile.FieldType.int), [])
def MX5_code : MI := (yX5_code, cX5_code, 4, (Option.some Jvm.ClassFile.FieldType.int), [])
def MX5_areAlike : MI := (yX5_areAlike, cX5_areAlike, 5, (Option.some Jvm.ClassFile.FieldType.boolean), [])
def MX5_first : MI := (yX5_first, cX5_first, 3, (Option.some Jvm.ClassFile.FieldType.int), [])
def MX5_valueOf : MI := (yX5_valueOf, cX5_valueOf, 3, (Option.some Jvm.ClassFile.FieldType.int), [])
def MX5_told : MI := (yX5_told, cX5_told, 4, (Option.some Jvm.ClassFile.FieldType.int), [])
def MX5_ofWalk : MI := (yX5_ofWalk, cX5_ofWalk, 3, (Option.some Jvm.ClassFile.FieldType.int), [])
def MX5_houseTold : MI := (yX5_houseTold, cX5_houseTold, 7, (Option.some Jvm.ClassFile.FieldType.int), [])
def MX5_house : MI := (yX5_house, cX5_house, 2, (Option.some Jvm.ClassFile.FieldType.int), [])
def MX5_knock : MI := (yX5_knock, cX5_knock, 1, (Option.some Jvm.ClassFile.FieldType.int), [])
def MX5_isSound : MI := (yX5_isSound, cX5_isSound, 1, (Option.some Jvm.ClassFile.FieldType.boolean), [])
def MX5_digest : MI := (yX5_digest, cX5_digest, 5, (Option.some Jvm.ClassFile.FieldType.long), [])
def MJ5_init_d00df : MI := (yJ5_init_d00df, cJ5_init_d00df, 2, (Option.none : Option Jvm.ClassFile.FieldType), [])
def MJ5_length_8abf5 : MI := (yJ5_length_8abf5, cJ5_length_8abf5, 1, (Option.some Jvm.ClassFile.FieldType.int), [])
def MJ5_ensureCapacityInternal_d00df : MI := (yJ5_ensureCapacityInternal_d00df, cJ5_ensureCapacityInternal_d00df, 3, (Option.none : Option Jvm.ClassFile.FieldType), [])
def MJ5_newCapacity_0f7a4 : MI := (yJ5_newCapacity_0f7a4, cJ5_newCapacity_0f7a4, 6, (Option.some Jvm.ClassFile.FieldType.int), [])
def MJ5_inflate_da8c8 : MI := (yJ5_inflate_da8c8, cJ5_inflate_da8c8, 2, (Option.none : Option Jvm.ClassFile.FieldType), [])
def MJ5_append_cf1ce : MI := (yJ5_append_cf1ce, cJ5_append_cf1ce, 3, (Option.some (Jvm.ClassFile.FieldType.object "java/lang/AbstractStringBuilder")), [])
def MJ5_appendNull_278bc : MI := (yJ5_appendNull_278bc, cJ5_appendNull_278bc, 3, (Option.some (Jvm.ClassFile.FieldType.object "java/lang/AbstractStringBuilder")), [])
def MJ5_append_3fe6f : MI := (yJ5_append_3fe6f, cJ5_append_3fe6f, 2, (Option.some (Jvm.ClassFile.FieldType.object "java/lang/AbstractStringBuilder")), [])
def MJ5_append_c97b9 : MI := (yJ5_append_c97b9, cJ5_append_c97b9, 4, (Option.some (Jvm.ClassFile.FieldType.object "java/lang/AbstractStringBuilder")), [])
def MJ5_getValue_6d5f1 : MI := (yJ5_getValue_6d5f1, cJ5_getValue_6d5f1, 1, (Option.some (Jvm.ClassFile.FieldType.array Jvm.ClassFile.FieldType.byte)), [])
def MJ5_isLatin1_aae02 : MI := (yJ5_isLatin1_aae02, cJ5_isLatin1_aae02, 1, (Option.some Jvm.ClassFile.FieldType.boolean), [])
def MJ5_inflateIfNeededFor_a7421 : MI := (yJ5_inflateIfNeededFor_a7421, cJ5_inflateIfNeededFor_a7421, 2, (Option.none : Option Jvm.ClassFile.FieldType), [])
def MJ5_putStringAt_47b60 : MI := (yJ5_putStringAt_47b60, cJ5_putStringAt_47b60, 3, (Option.none : Option Jvm.ClassFile.FieldType), [])
def MJ6_getChars_ba4f3 : MI := (yJ6_getChars_ba4f3, cJ6_getChars_ba4f3, 7, (Option.some Jvm.ClassFile.FieldType.int), [])
def MJ6_stringSize_0f7a4 : MI := (yJ6_stringSize_0f7a4, cJ6_stringSize_0f7a4, 4, (Option.some Jvm.ClassFile.FieldType.int), [])
def MJ9_floorMod_7cf53 : MI := (yJ9_floorMod_7cf53, cJ9_floorMod_7cf53, 3, (Option.some Jvm.ClassFile.FieldType.int), [])
def MJ9_max_7cf53 : MI := (yJ9_max_7cf53, cJ9_max_7cf53, 2, (Option.some Jvm.ClassFile.FieldType.int), [])
def MJ9_min_7cf53 : MI := (yJ9_min_7cf53, cJ9_min_7cf53, 2, (Option.some Jvm.ClassFile.FieldType.int), [])
def MJ0_init_81219 : MI := (yJ0_init_81219, cJ0_init_81219, 2, (Option.none : Option Jvm.ClassFile.FieldType), [])
def MJ0_length_8abf5 : MI := (yJ0_length_8abf5, cJ0_length_8abf5, 1, (Option.some Jvm.ClassFile.FieldType.int), [])
def MJ0_isEmpty_aae02 : MI := (yJ0_isEmpty_aae02, cJ0_isEmpty_aae02, 1, (Option.some Jvm.ClassFile.FieldType.boolean), [])
def MJ0_getBytes_840e7 : MI := (yJ0_getBytes_840e7, cJ0_getBytes_840e7, 4, (Option.none : Option Jvm.ClassFile.FieldType), [])
def MJ0_init_db425 : MI := (yJ0_init_db425, cJ0_init_db425, 5, (Option.none : Option Jvm.ClassFile.FieldType), [])
def MJ0_coder_7d493 : MI := (yJ0_coder_7d493, cJ0_coder_7d493, 1, (Option.some Jvm.ClassFile.FieldType.byte), [])
def MJ0_checkIndex_df160 : MI := (yJ0_checkIndex_df160, cJ0_checkIndex_df160, 2, (Option.none : Option Jvm.ClassFile.FieldType), [])
def MJ0_checkBoundsOffCount_cabcc : MI := (yJ0_checkBoundsOffCount_cabcc, cJ0_checkBoundsOffCount_cabcc, 3, (Option.some Jvm.ClassFile.FieldType.int), [])
def MJ0_checkBoundsBeginEnd_23922 : MI := (yJ0_checkBoundsBeginEnd_23922, cJ0_checkBoundsBeginEnd_23922, 3, (Option.none : Option Jvm.ClassFile.FieldType), [])
def MJ4_init_da8c8 : MI := (yJ4_init_da8c8, cJ4_init_da8c8, 1, (Option.none : Option Jvm.ClassFile.FieldType), [])
def MJ4_append_15ec4 : MI := (yJ4_append_15ec4, cJ4_append_15ec4, 2, (Option.some (Jvm.ClassFile.FieldType.object "java/lang/StringBuilder")), [])
def MJ4_append_cf468 : MI := (yJ4_append_cf468, cJ4_append_cf468, 2, (Option.some (Jvm.ClassFile.FieldType.object "java/lang/StringBuilder")), [])
def MJ4_append_bf812 : MI := (yJ4_append_bf812, cJ4_append_bf812, 2, (Option.some (Jvm.ClassFile.FieldType.object "java/lang/StringBuilder")), [])
def MJ4_toString_0e30d : MI := (yJ4_toString_0e30d, cJ4_toString_0e30d, 1, (Option.some (Jvm.ClassFile.FieldType.object "java/lang/String")), [])
def MJ4_length_8abf5 : MI := (yJ4_length_8abf5, cJ4_length_8abf5, 1, (Option.some Jvm.ClassFile.FieldType.int), [])
def MJ1_canEncode_fc78d : MI := (yJ1_canEncode_fc78d, cJ1_canEncode_fc78d, 1, (Option.some Jvm.ClassFile.FieldType.boolean), [])
def MJ1_inflate_0e8fd : MI := (yJ1_inflate_0e8fd, cJ1_inflate_0e8fd, 5, (Option.none : Option Jvm.ClassFile.FieldType), [])
def MJ2_newBytesFor_77867 : MI := (yJ2_newBytesFor_77867, cJ2_newBytesFor_77867, 1, (Option.some (Jvm.ClassFile.FieldType.array Jvm.ClassFile.FieldType.byte)), [])
def MJ2_newBytesLength_0f7a4 : MI := (yJ2_newBytesLength_0f7a4, cJ2_newBytesLength_0f7a4, 1, (Option.some Jvm.ClassFile.FieldType.int), [])
def MJ2_putChar_b72d1 : MI := (yJ2_putChar_b72d1, cJ2_putChar_b72d1, 3, (Option.none : Option Jvm.ClassFile.FieldType), [])
def MJ2_getChar_3b067 : MI := (yJ2_getChar_3b067, cJ2_getChar_3b067, 2, (Option.some Jvm.ClassFile.FieldType.char), [])
def MJ2_length_9d52b : MI := (yJ2_length_9d52b, cJ2_length_9d52b, 1, (Option.some Jvm.ClassFile.FieldType.int), [])
def MJ2_coderFromArrayLen_85cad : MI := (yJ2_coderFromArrayLen_85cad, cJ2_coderFromArrayLen_85cad, 2, (Option.some Jvm.ClassFile.FieldType.byte), [])
def MJ2_compress_39247 : MI := (yJ2_compress_39247, cJ2_compress_39247, 6, (Option.some (Jvm.ClassFile.FieldType.array Jvm.ClassFile.FieldType.byte)), [])
def MJ2_compress_5af95 : MI := (yJ2_compress_5af95, cJ2_compress_5af95, 7, (Option.some Jvm.ClassFile.FieldType.int), [])
def MJ2_putCharSB_b72d1 : MI := (yJ2_putCharSB_b72d1, cJ2_putCharSB_b72d1, 3, (Option.none : Option Jvm.ClassFile.FieldType), [])
def MJ2_getChars_46870 : MI := (yJ2_getChars_46870, cJ2_getChars_46870, 5, (Option.some Jvm.ClassFile.FieldType.int), [])
def MJ2_putCharsAt_cd4e5 : MI := (yJ2_putCharsAt_cd4e5, cJ2_putCharsAt_cd4e5, 7, (Option.some Jvm.ClassFile.FieldType.int), [])
def MJ2_inflate_0e8fd : MI := (yJ2_inflate_0e8fd, cJ2_inflate_0e8fd, 6, (Option.none : Option Jvm.ClassFile.FieldType), [])
def MJ2_getChars_ba4f3 : MI := (yJ2_getChars_ba4f3, cJ2_getChars_ba4f3, 7, (Option.some Jvm.ClassFile.FieldType.int), [])
def MJ2_checkIndex_2214a : MI := (yJ2_checkIndex_2214a, cJ2_checkIndex_2214a, 2, (Option.none : Option Jvm.ClassFile.FieldType), [])
def MJ2_checkBoundsBeginEnd_d044e : MI := (yJ2_checkBoundsBeginEnd_d044e, cJ2_checkBoundsBeginEnd_d044e, 3, (Option.none : Option Jvm.ClassFile.FieldType), [])
def MJ2_checkBoundsOffCount_d044e : MI := (yJ2_checkBoundsOffCount_d044e, cJ2_checkBoundsOffCount_d044e, 3, (Option.none : Option Jvm.ClassFile.FieldType), [])
def MJ7_copyOf_9075b : MI := (yJ7_copyOf_9075b, cJ7_copyOf_9075b, 3, (Option.some (Jvm.ClassFile.FieldType.array Jvm.ClassFile.FieldType.byte)), [])
def MJ7_checkLength_df160 : MI := (yJ7_checkLength_df160, cJ7_checkLength_df160, 2, (Option.none : Option Jvm.ClassFile.FieldType), [])
def MJ7_copyOfRange_39247 : MI := (yJ7_copyOfRange_39247, cJ7_copyOfRange_39247, 3, (Option.some (Jvm.ClassFile.FieldType.array Jvm.ClassFile.FieldType.byte)), [])
def MJ7_copyOfRangeByte_39247 : MI := (yJ7_copyOfRangeByte_39247, cJ7_copyOfRangeByte_39247, 5, (Option.some (Jvm.ClassFile.FieldType.array Jvm.ClassFile.FieldType.byte)), [])
def MJ8_newLength_cabcc : MI := (yJ8_newLength_cabcc, cJ8_newLength_cabcc, 4, (Option.some Jvm.ClassFile.FieldType.int), [])
def MJ8_hugeLength_7cf53 : MI := (yJ8_hugeLength_7cf53, cJ8_hugeLength_7cf53, 3, (Option.some Jvm.ClassFile.FieldType.int), [])
def MJ3_checkIndex_8e157 : MI := (yJ3_checkIndex_8e157, cJ3_checkIndex_8e157, 3, (Option.some Jvm.ClassFile.FieldType.int), [])
def MJ3_checkFromToIndex_8c36e : MI := (yJ3_checkFromToIndex_8c36e, cJ3_checkFromToIndex_8c36e, 4, (Option.some Jvm.ClassFile.FieldType.int), [])
def MJ3_checkFromIndexSize_8c36e : MI := (yJ3_checkFromIndexSize_8c36e, cJ3_checkFromIndexSize_8c36e, 4, (Option.some Jvm.ClassFile.FieldType.int), [])
def ML_put : MI := (yL_put, cL_put, 5, (Option.some Jvm.ClassFile.FieldType.int), [((0 : Nat), (11 : Nat), (14 : Nat), (19 : Nat)), ((0 : Nat), (11 : Nat), (18 : Nat), (21 : Nat)), ((0 : Nat), (11 : Nat), (22 : Nat), (23 : Nat))])
def ML_putAll : MI := (yL_putAll, cL_putAll, 8, (Option.some Jvm.ClassFile.FieldType.int), [((0 : Nat), (17 : Nat), (20 : Nat), (19 : Nat)), ((0 : Nat), (17 : Nat), (24 : Nat), (21 : Nat)), ((0 : Nat), (17 : Nat), (28 : Nat), (23 : Nat))])
def ML_take : MI := (yL_take, cL_take, 5, (Option.some Jvm.ClassFile.FieldType.int), [((0 : Nat), (11 : Nat), (14 : Nat), (19 : Nat)), ((0 : Nat), (11 : Nat), (18 : Nat), (21 : Nat))])
def ML_clear : MI := (yL_clear, cL_clear, 4, (Option.some Jvm.ClassFile.FieldType.int), [((0 : Nat), (10 : Nat), (13 : Nat), (19 : Nat))])
def ML_pair : MI := (yL_pair, cL_pair, 5, (Option.some Jvm.ClassFile.FieldType.int), [((0 : Nat), (11 : Nat), (14 : Nat), (21 : Nat)), ((0 : Nat), (11 : Nat), (18 : Nat), (23 : Nat))])
def ML_pour : MI := (yL_pour, cL_pour, 5, (Option.some Jvm.ClassFile.FieldType.int), [((0 : Nat), (11 : Nat), (14 : Nat), (19 : Nat)), ((0 : Nat), (11 : Nat), (18 : Nat), (23 : Nat))])
def ML_change : MI := (yL_change, cL_change, 6, (Option.some Jvm.ClassFile.FieldType.int), [((0 : Nat), (13 : Nat), (16 : Nat), (19 : Nat)), ((0 : Nat), (13 : Nat), (20 : Nat), (21 : Nat))])
def ML_insert : MI := (yL_insert, cL_insert, 6, (Option.some Jvm.ClassFile.FieldType.int), [((0 : Nat), (13 : Nat), (16 : Nat), (19 : Nat)), ((0 : Nat), (13 : Nat), (20 : Nat), (21 : Nat)), ((0 : Nat), (13 : Nat), (24 : Nat), (23 : Nat))])
def ML_remove : MI := (yL_remove, cL_remove, 5, (Option.some Jvm.ClassFile.FieldType.int), [((0 : Nat), (11 : Nat), (14 : Nat), (19 : Nat))])
def ML_turn : MI := (yL_turn, cL_turn, 4, (Option.some Jvm.ClassFile.FieldType.int), [((0 : Nat), (10 : Nat), (13 : Nat), (19 : Nat))])
def ML_rotate : MI := (yL_rotate, cL_rotate, 5, (Option.some Jvm.ClassFile.FieldType.int), [((0 : Nat), (11 : Nat), (14 : Nat), (19 : Nat)), ((0 : Nat), (11 : Nat), (18 : Nat), (21 : Nat))])
def ML_swap : MI := (yL_swap, cL_swap, 6, (Option.some Jvm.ClassFile.FieldType.int), [((0 : Nat), (13 : Nat), (16 : Nat), (19 : Nat))])
def ML_fill : MI := (yL_fill, cL_fill, 5, (Option.some Jvm.ClassFile.FieldType.int), [((0 : Nat), (11 : Nat), (14 : Nat), (19 : Nat)), ((0 : Nat), (11 : Nat), (18 : Nat), (21 : Nat))])
def ML_replace : MI := (yL_replace, cL_replace, 6, (Option.some Jvm.ClassFile.FieldType.int), [((0 : Nat), (13 : Nat), (16 : Nat), (19 : Nat)), ((0 : Nat), (13 : Nat), (20 : Nat), (21 : Nat))])
def ML_copies : MI := (yL_copies, cL_copies, 6, (Option.some Jvm.ClassFile.FieldType.int), [((0 : Nat), (13 : Nat), (16 : Nat), (19 : Nat)), ((0 : Nat), (13 : Nat), (20 : Nat), (21 : Nat)), ((0 : Nat), (13 : Nat), (24 : Nat), (23 : Nat))])
def ML_walk : MI := (yL_walk, cL_walk, 6, (Option.some Jvm.ClassFile.FieldType.int), [((0 : Nat), (13 : Nat), (16 : Nat), (19 : Nat)), ((0 : Nat), (13 : Nat), (20 : Nat), (21 : Nat))])
def ML_next : MI := (yL_next, cL_next, 4, (Option.some Jvm.ClassFile.FieldType.int), [((0 : Nat), (10 : Nat), (13 : Nat), (19 : Nat)), ((0 : Nat), (10 : Nat), (16 : Nat), (23 : Nat))])
def ML_more : MI := (yL_more, cL_more, 4, (Option.some Jvm.ClassFile.FieldType.int), [((0 : Nat), (10 : Nat), (13 : Nat), (19 : Nat)), ((0 : Nat), (10 : Nat), (16 : Nat), (23 : Nat))])
def ML_takeOut : MI := (yL_takeOut, cL_takeOut, 4, (Option.some Jvm.ClassFile.FieldType.int), [((0 : Nat), (10 : Nat), (13 : Nat), (19 : Nat)), ((0 : Nat), (10 : Nat), (16 : Nat), (23 : Nat))])
def ML_rest : MI := (yL_rest, cL_rest, 4, (Option.some Jvm.ClassFile.FieldType.int), [((0 : Nat), (9 : Nat), (12 : Nat), (19 : Nat)), ((0 : Nat), (9 : Nat), (15 : Nat), (23 : Nat))])
def ML_keepRest : MI := (yL_keepRest, cL_keepRest, 5, (Option.some Jvm.ClassFile.FieldType.int), [((0 : Nat), (11 : Nat), (14 : Nat), (19 : Nat)), ((0 : Nat), (11 : Nat), (18 : Nat), (23 : Nat))])
def ML_keep : MI := (yL_keep, cL_keep, 5, (Option.some Jvm.ClassFile.FieldType.int), [((0 : Nat), (11 : Nat), (14 : Nat), (19 : Nat))])
def ML_drop : MI := (yL_drop, cL_drop, 4, (Option.some Jvm.ClassFile.FieldType.int), [((0 : Nat), (10 : Nat), (13 : Nat), (19 : Nat))])
def ML_skip : MI := (yL_skip, cL_skip, 5, (Option.some Jvm.ClassFile.FieldType.int), [((0 : Nat), (11 : Nat), (14 : Nat), (19 : Nat)), ((0 : Nat), (11 : Nat), (18 : Nat), (21 : Nat)), ((0 : Nat), (11 : Nat), (22 : Nat), (23 : Nat))])
def ML_pourRest : MI := (yL_pourRest, cL_pourRest, 5, (Option.some Jvm.ClassFile.FieldType.int), [((0 : Nat), (11 : Nat), (14 : Nat), (19 : Nat)), ((0 : Nat), (11 : Nat), (18 : Nat), (23 : Nat))])
def ML_zip : MI := (yL_zip, cL_zip, 5, (Option.some Jvm.ClassFile.FieldType.int), [((0 : Nat), (10 : Nat), (13 : Nat), (19 : Nat)), ((0 : Nat), (10 : Nat), (17 : Nat), (21 : Nat)), ((0 : Nat), (10 : Nat), (21 : Nat), (23 : Nat))])
def ML_text : MI := (yL_text, cL_text, 4, (Option.some Jvm.ClassFile.FieldType.int), [((0 : Nat), (9 : Nat), (12 : Nat), (19 : Nat))])
def ML_list : MI := (yL_list, cL_list, 4, (Option.some Jvm.ClassFile.FieldType.int), [((0 : Nat), (9 : Nat), (12 : Nat), (19 : Nat))])
def ML_size : MI := (yL_size, cL_size, 4, (Option.some Jvm.ClassFile.FieldType.int), [((0 : Nat), (10 : Nat), (13 : Nat), (19 : Nat))])
def ML_isEmpty : MI := (yL_isEmpty, cL_isEmpty, 4, (Option.some Jvm.ClassFile.FieldType.int), [((0 : Nat), (17 : Nat), (20 : Nat), (19 : Nat))])
def ML_has : MI := (yL_has, cL_has, 5, (Option.some Jvm.ClassFile.FieldType.int), [((0 : Nat), (11 : Nat), (14 : Nat), (19 : Nat)), ((0 : Nat), (11 : Nat), (18 : Nat), (21 : Nat))])
def ML_often : MI := (yL_often, cL_often, 5, (Option.some Jvm.ClassFile.FieldType.int), [((0 : Nat), (11 : Nat), (14 : Nat), (19 : Nat)), ((0 : Nat), (11 : Nat), (18 : Nat), (21 : Nat))])
def ML_placeOf : MI := (yL_placeOf, cL_placeOf, 6, (Option.some Jvm.ClassFile.FieldType.int), [((0 : Nat), (13 : Nat), (16 : Nat), (19 : Nat)), ((0 : Nat), (13 : Nat), (20 : Nat), (21 : Nat))])
def ML_disjoint : MI := (yL_disjoint, cL_disjoint, 5, (Option.some Jvm.ClassFile.FieldType.int), [((0 : Nat), (11 : Nat), (14 : Nat), (19 : Nat))])
def ML_end : MI := (yL_end, cL_end, 5, (Option.some Jvm.ClassFile.FieldType.int), [((0 : Nat), (11 : Nat), (14 : Nat), (19 : Nat))])
def ML_code : MI := (yL_code, cL_code, 4, (Option.some Jvm.ClassFile.FieldType.int), [((0 : Nat), (10 : Nat), (13 : Nat), (19 : Nat))])
def ML_areAlike : MI := (yL_areAlike, cL_areAlike, 5, (Option.some Jvm.ClassFile.FieldType.int), [((0 : Nat), (18 : Nat), (21 : Nat), (19 : Nat))])
def ML_first : MI := (yL_first, cL_first, 5, (Option.some Jvm.ClassFile.FieldType.int), [((0 : Nat), (11 : Nat), (14 : Nat), (19 : Nat))])
def ML_valueOf : MI := (yL_valueOf, cL_valueOf, 4, (Option.some Jvm.ClassFile.FieldType.int), [((0 : Nat), (10 : Nat), (13 : Nat), (21 : Nat))])
def ML_ofWalk : MI := (yL_ofWalk, cL_ofWalk, 5, (Option.some Jvm.ClassFile.FieldType.int), [((0 : Nat), (11 : Nat), (14 : Nat), (19 : Nat)), ((0 : Nat), (11 : Nat), (18 : Nat), (21 : Nat))])
def ML_house : MI := (yL_house, cL_house, 4, (Option.some Jvm.ClassFile.FieldType.int), [((0 : Nat), (10 : Nat), (13 : Nat), (21 : Nat))])
def SR0 : SRT := [("Overwalks", 304, "what is not 0 to 5", 10), ("Overwalks", 350, "no such walk", 12), ("Overwalks", 281, "what is not 0 to 3", 14), ("Overwalks", 337, "no such shelf", 16), ("Overwalks", 361, "not 0 to 100", 18), ("Overwalks", 367, "more than 12 would lie there", 20), ("Overwalks", 363, "not -1 to 100", 22), ("Overwalks", 359, "not 0 to 99", 24), ("Overwalks", 346, "none of the rows", 26), ("Overwalks", 357, "no such place", 28), ("Overwalks", 152, "by is not -20 to 20", 30), ("Overwalks", 365, "many is not 0 to 12", 32), ("Overwalks", 175, "how is not 0 to 2", 34), ("Overwalks", 177, "only the vector has elements", 36), ("Overwalks", 354, "this walk was not made", 38), ("Overwalks", 217, "!", 40), ("java/util/Arrays", 337, " > ", 42), ("Overwalks", 348, "no such list", 44), ("Overwalks", 240, "both walks are the same", 46), ("OverwalksModel", 154, "", 48), ("OverwalksModel", 57, "!", 40), ("OverwalksModel", 167, " ", 50), ("OverwalksModel", 149, "-", 52), ("OverwalksModel", 197, "/", 54)]
theorem SRm {q : String × Nat × String × Nat} (i : Nat) (h : SR0[i]? = some q) : q ∈ SR0 := List.mem_of_getElem? h
end
