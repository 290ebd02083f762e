theorem nm_all {y : MethodName} {c : String} (h : c ≠ "java/lang/invoke/MethodHandle" ∧ c ≠ "java/lang/invoke/VarHandle") (e : y.cls = c) : notMH y = true := by
  subst e
  unfold notMH
  rw [decide_eq_true h.1, decide_eq_true h.2]
  rfl
theorem nm_Overwalks_Shelf {a b : String} : notMH ⟨"Overwalks$Shelf", a, b⟩ = true := nm_all (c := "Overwalks$Shelf") ⟨by decide +kernel, by decide +kernel⟩ rfl
theorem nm_Overwalks_Walk {a b : String} : notMH ⟨"Overwalks$Walk", a, b⟩ = true := nm_all (c := "Overwalks$Walk") ⟨by decide +kernel, by decide +kernel⟩ rfl
theorem nm_Overwalks {a b : String} : notMH ⟨"Overwalks", a, b⟩ = true := nm_all (c := "Overwalks") ⟨by decide +kernel, by decide +kernel⟩ rfl
theorem nm_OverwalksLaw_Out {a b : String} : notMH ⟨"OverwalksLaw$Out", a, b⟩ = true := nm_all (c := "OverwalksLaw$Out") ⟨by decide +kernel, by decide +kernel⟩ rfl
theorem nm_OverwalksModel {a b : String} : notMH ⟨"OverwalksModel", a, b⟩ = true := nm_all (c := "OverwalksModel") ⟨by decide +kernel, by decide +kernel⟩ rfl
theorem nm_java_lang_AbstractStringBuilder {a b : String} : notMH ⟨"java/lang/AbstractStringBuilder", a, b⟩ = true := nm_all (c := "java/lang/AbstractStringBuilder") ⟨by decide +kernel, by decide +kernel⟩ rfl
theorem nm_java_lang_Integer {a b : String} : notMH ⟨"java/lang/Integer", a, b⟩ = true := nm_all (c := "java/lang/Integer") ⟨by decide +kernel, by decide +kernel⟩ rfl
theorem nm_java_lang_Math {a b : String} : notMH ⟨"java/lang/Math", a, b⟩ = true := nm_all (c := "java/lang/Math") ⟨by decide +kernel, by decide +kernel⟩ rfl
theorem nm_java_lang_String {a b : String} : notMH ⟨"java/lang/String", a, b⟩ = true := nm_all (c := "java/lang/String") ⟨by decide +kernel, by decide +kernel⟩ rfl
theorem nm_java_lang_StringBuilder {a b : String} : notMH ⟨"java/lang/StringBuilder", a, b⟩ = true := nm_all (c := "java/lang/StringBuilder") ⟨by decide +kernel, by decide +kernel⟩ rfl
theorem nm_java_lang_StringLatin1 {a b : String} : notMH ⟨"java/lang/StringLatin1", a, b⟩ = true := nm_all (c := "java/lang/StringLatin1") ⟨by decide +kernel, by decide +kernel⟩ rfl
theorem nm_java_lang_StringUTF16 {a b : String} : notMH ⟨"java/lang/StringUTF16", a, b⟩ = true := nm_all (c := "java/lang/StringUTF16") ⟨by decide +kernel, by decide +kernel⟩ rfl
theorem nm_java_util_Arrays {a b : String} : notMH ⟨"java/util/Arrays", a, b⟩ = true := nm_all (c := "java/util/Arrays") ⟨by decide +kernel, by decide +kernel⟩ rfl
theorem nm_jdk_internal_util_ArraysSupport {a b : String} : notMH ⟨"jdk/internal/util/ArraysSupport", a, b⟩ = true := nm_all (c := "jdk/internal/util/ArraysSupport") ⟨by decide +kernel, by decide +kernel⟩ rfl
theorem nm_jdk_internal_util_Preconditions {a b : String} : notMH ⟨"jdk/internal/util/Preconditions", a, b⟩ = true := nm_all (c := "jdk/internal/util/Preconditions") ⟨by decide +kernel, by decide +kernel⟩ rfl
theorem nm_OverwalksLaw {a b : String} : notMH ⟨"OverwalksLaw", a, b⟩ = true := nm_all (c := "OverwalksLaw") ⟨by decide +kernel, by decide +kernel⟩ rfl
theorem pd_0 : (parseMethodDescriptor "(LOverwalks$Kind;)V").map (fun d => d.parameters.length) = some 1 := by decide +kernel
theorem pd_1 : (parseMethodDescriptor "()Z").map (fun d => d.parameters.length) = some 0 := by decide +kernel
theorem pd_2 : (parseMethodDescriptor "(I)Z").map (fun d => d.parameters.length) = some 1 := by decide +kernel
theorem pd_3 : (parseMethodDescriptor "(I)I").map (fun d => d.parameters.length) = some 1 := by decide +kernel
theorem pd_4 : (parseMethodDescriptor "(II)Z").map (fun d => d.parameters.length) = some 2 := by decide +kernel
theorem pd_5 : (parseMethodDescriptor "()V").map (fun d => d.parameters.length) = some 0 := by decide +kernel
theorem pd_6 : (parseMethodDescriptor "(II)I").map (fun d => d.parameters.length) = some 2 := by decide +kernel
theorem pd_7 : (parseMethodDescriptor "(II)V").map (fun d => d.parameters.length) = some 2 := by decide +kernel
theorem pd_8 : (parseMethodDescriptor "(I)V").map (fun d => d.parameters.length) = some 1 := by decide +kernel
theorem pd_9 : (parseMethodDescriptor "(LOverwalks$Shelf;I)V").map (fun d => d.parameters.length) = some 2 := by decide +kernel
theorem pd_10 : (parseMethodDescriptor "(LOverwalks$Shelf;)V").map (fun d => d.parameters.length) = some 1 := by decide +kernel
theorem pd_11 : (parseMethodDescriptor "(LOverwalks$Shelf;II)V").map (fun d => d.parameters.length) = some 3 := by decide +kernel
theorem pd_12 : (parseMethodDescriptor "()I").map (fun d => d.parameters.length) = some 0 := by decide +kernel
theorem pd_13 : (parseMethodDescriptor "(IIIII)I").map (fun d => d.parameters.length) = some 5 := by decide +kernel
theorem pd_14 : (parseMethodDescriptor "(III)I").map (fun d => d.parameters.length) = some 3 := by decide +kernel
theorem pd_15 : (parseMethodDescriptor "(I)Ljava/lang/String;").map (fun d => d.parameters.length) = some 1 := by decide +kernel
theorem pd_16 : (parseMethodDescriptor "(II)Ljava/lang/String;").map (fun d => d.parameters.length) = some 2 := by decide +kernel
theorem pd_17 : (parseMethodDescriptor "(IIZ)I").map (fun d => d.parameters.length) = some 3 := by decide +kernel
theorem pd_18 : (parseMethodDescriptor "(IZ)I").map (fun d => d.parameters.length) = some 2 := by decide +kernel
theorem pd_19 : (parseMethodDescriptor "()J").map (fun d => d.parameters.length) = some 0 := by decide +kernel
theorem pd_20 : (parseMethodDescriptor "(I)LOverwalks$Shelf;").map (fun d => d.parameters.length) = some 1 := by decide +kernel
theorem pd_21 : (parseMethodDescriptor "(I)LOverwalks$Walk;").map (fun d => d.parameters.length) = some 1 := by decide +kernel
theorem pd_22 : (parseMethodDescriptor "(LOverwalks$Walk;)V").map (fun d => d.parameters.length) = some 1 := by decide +kernel
theorem pd_23 : (parseMethodDescriptor "(Z)I").map (fun d => d.parameters.length) = some 1 := by decide +kernel
theorem pd_24 : (parseMethodDescriptor "(IIII)I").map (fun d => d.parameters.length) = some 4 := by decide +kernel
theorem pd_25 : (parseMethodDescriptor "(LOverwalks$Shelf;LOverwalks$Shelf;)Z").map (fun d => d.parameters.length) = some 2 := by decide +kernel
theorem pd_26 : (parseMethodDescriptor "(LOverwalks$Shelf;ILOverwalks$Shelf;)Z").map (fun d => d.parameters.length) = some 3 := by decide +kernel
theorem pd_27 : (parseMethodDescriptor "(LOverwalks$Walk;LOverwalks$Shelf;)I").map (fun d => d.parameters.length) = some 2 := by decide +kernel
theorem pd_28 : (parseMethodDescriptor "(LOverwalks$Shelf;I)Ljava/lang/String;").map (fun d => d.parameters.length) = some 2 := by decide +kernel
theorem pd_29 : (parseMethodDescriptor "(Ljava/lang/StringBuilder;I)V").map (fun d => d.parameters.length) = some 2 := by decide +kernel
theorem pd_30 : (parseMethodDescriptor "(III)Z").map (fun d => d.parameters.length) = some 3 := by decide +kernel
theorem pd_31 : (parseMethodDescriptor "(ZZZ)Z").map (fun d => d.parameters.length) = some 3 := by decide +kernel
theorem pd_32 : (parseMethodDescriptor "(ZZ)Z").map (fun d => d.parameters.length) = some 2 := by decide +kernel
theorem pd_33 : (parseMethodDescriptor "(Z)Z").map (fun d => d.parameters.length) = some 1 := by decide +kernel
theorem pd_34 : (parseMethodDescriptor "()Ljava/lang/String;").map (fun d => d.parameters.length) = some 0 := by decide +kernel
theorem pd_35 : (parseMethodDescriptor "(III)V").map (fun d => d.parameters.length) = some 3 := by decide +kernel
theorem pd_36 : (parseMethodDescriptor "(I[II)I").map (fun d => d.parameters.length) = some 3 := by decide +kernel
theorem pd_37 : (parseMethodDescriptor "(II)[I").map (fun d => d.parameters.length) = some 2 := by decide +kernel
theorem pd_38 : (parseMethodDescriptor "(I)[I").map (fun d => d.parameters.length) = some 1 := by decide +kernel
theorem pd_39 : (parseMethodDescriptor "([I)Ljava/lang/String;").map (fun d => d.parameters.length) = some 1 := by decide +kernel
theorem pd_40 : (parseMethodDescriptor "(I[I)I").map (fun d => d.parameters.length) = some 2 := by decide +kernel
theorem pd_41 : (parseMethodDescriptor "(Ljava/lang/String;)Ljava/lang/AbstractStringBuilder;").map (fun d => d.parameters.length) = some 1 := by decide +kernel
theorem pd_42 : (parseMethodDescriptor "()Ljava/lang/AbstractStringBuilder;").map (fun d => d.parameters.length) = some 0 := by decide +kernel
theorem pd_43 : (parseMethodDescriptor "(C)Ljava/lang/AbstractStringBuilder;").map (fun d => d.parameters.length) = some 1 := by decide +kernel
theorem pd_44 : (parseMethodDescriptor "(I)Ljava/lang/AbstractStringBuilder;").map (fun d => d.parameters.length) = some 1 := by decide +kernel
theorem pd_45 : (parseMethodDescriptor "()[B").map (fun d => d.parameters.length) = some 0 := by decide +kernel
theorem pd_46 : (parseMethodDescriptor "(Ljava/lang/String;)V").map (fun d => d.parameters.length) = some 1 := by decide +kernel
theorem pd_47 : (parseMethodDescriptor "(ILjava/lang/String;)V").map (fun d => d.parameters.length) = some 2 := by decide +kernel
theorem pd_48 : (parseMethodDescriptor "(II[B)I").map (fun d => d.parameters.length) = some 3 := by decide +kernel
theorem pd_49 : (parseMethodDescriptor "(Ljava/lang/StringBuilder;)V").map (fun d => d.parameters.length) = some 1 := by decide +kernel
theorem pd_50 : (parseMethodDescriptor "(Ljava/lang/Object;)Z").map (fun d => d.parameters.length) = some 1 := by decide +kernel
theorem pd_51 : (parseMethodDescriptor "([BIB)V").map (fun d => d.parameters.length) = some 3 := by decide +kernel
theorem pd_52 : (parseMethodDescriptor "(Ljava/lang/AbstractStringBuilder;Ljava/lang/Void;)V").map (fun d => d.parameters.length) = some 2 := by decide +kernel
theorem pd_53 : (parseMethodDescriptor "()B").map (fun d => d.parameters.length) = some 0 := by decide +kernel
theorem pd_54 : (parseMethodDescriptor "(Ljava/lang/String;)Ljava/lang/StringBuilder;").map (fun d => d.parameters.length) = some 1 := by decide +kernel
theorem pd_55 : (parseMethodDescriptor "(C)Ljava/lang/StringBuilder;").map (fun d => d.parameters.length) = some 1 := by decide +kernel
theorem pd_56 : (parseMethodDescriptor "(I)Ljava/lang/StringBuilder;").map (fun d => d.parameters.length) = some 1 := by decide +kernel
theorem pd_57 : (parseMethodDescriptor "(C)Z").map (fun d => d.parameters.length) = some 1 := by decide +kernel
theorem pd_58 : (parseMethodDescriptor "([B[B)Z").map (fun d => d.parameters.length) = some 2 := by decide +kernel
theorem pd_59 : (parseMethodDescriptor "([BI[BII)V").map (fun d => d.parameters.length) = some 5 := by decide +kernel
theorem pd_60 : (parseMethodDescriptor "(I)[B").map (fun d => d.parameters.length) = some 1 := by decide +kernel
theorem pd_61 : (parseMethodDescriptor "([BII)V").map (fun d => d.parameters.length) = some 3 := by decide +kernel
theorem pd_62 : (parseMethodDescriptor "([BI)C").map (fun d => d.parameters.length) = some 2 := by decide +kernel
theorem pd_63 : (parseMethodDescriptor "([B)I").map (fun d => d.parameters.length) = some 1 := by decide +kernel
theorem pd_64 : (parseMethodDescriptor "([BI)B").map (fun d => d.parameters.length) = some 2 := by decide +kernel
theorem pd_65 : (parseMethodDescriptor "([BII)[B").map (fun d => d.parameters.length) = some 3 := by decide +kernel
theorem pd_66 : (parseMethodDescriptor "([BI[BII)I").map (fun d => d.parameters.length) = some 5 := by decide +kernel
theorem pd_67 : (parseMethodDescriptor "(III[B)I").map (fun d => d.parameters.length) = some 4 := by decide +kernel
theorem pd_68 : (parseMethodDescriptor "([BICCCC)I").map (fun d => d.parameters.length) = some 6 := by decide +kernel
theorem pd_69 : (parseMethodDescriptor "(I[B)V").map (fun d => d.parameters.length) = some 2 := by decide +kernel
theorem pd_70 : (parseMethodDescriptor "(II[B)V").map (fun d => d.parameters.length) = some 3 := by decide +kernel
theorem pd_71 : (parseMethodDescriptor "([BI)[B").map (fun d => d.parameters.length) = some 2 := by decide +kernel
theorem pd_72 : (parseMethodDescriptor "(IILjava/util/function/BiFunction;)I").map (fun d => d.parameters.length) = some 3 := by decide +kernel
theorem pd_73 : (parseMethodDescriptor "(IIILjava/util/function/BiFunction;)I").map (fun d => d.parameters.length) = some 4 := by decide +kernel
theorem pd_74 : (parseMethodDescriptor "(LOverwalks;IILOverwalksLaw$Out;)I").map (fun d => d.parameters.length) = some 4 := by decide +kernel
theorem pd_75 : (parseMethodDescriptor "(LOverwalks;IIIIILOverwalksLaw$Out;)I").map (fun d => d.parameters.length) = some 7 := by decide +kernel
theorem pd_76 : (parseMethodDescriptor "(LOverwalks;ILOverwalksLaw$Out;)I").map (fun d => d.parameters.length) = some 3 := by decide +kernel
theorem pd_77 : (parseMethodDescriptor "(LOverwalks;IIILOverwalksLaw$Out;)I").map (fun d => d.parameters.length) = some 5 := by decide +kernel
theorem pd_78 : (parseMethodDescriptor "(LOverwalks;IIZLOverwalksLaw$Out;)I").map (fun d => d.parameters.length) = some 5 := by decide +kernel
theorem pd_79 : (parseMethodDescriptor "(LOverwalks;IZLOverwalksLaw$Out;)I").map (fun d => d.parameters.length) = some 4 := by decide +kernel
theorem ok_X1_init : MOKi MX1_init 1 := ⟨⟨w_40, (by unfold cwM; exact w_78), nm_Overwalks_Shelf, pd_0, Nat.le_of_ble_eq_true rfl⟩, rfl, w_77, rfl, rfl⟩
theorem ok_X1_isOfTable : MOKv MX1_isOfTable 0 := ⟨⟨w_40, (by unfold cwM; exact w_433), nm_Overwalks_Shelf, pd_1, Nat.le_of_ble_eq_true rfl⟩, rfl, w_431, w_432⟩
theorem ok_X1_takesIn : MOKv MX1_takesIn 1 := ⟨⟨w_40, (by unfold cwM; exact w_438), nm_Overwalks_Shelf, pd_2, Nat.le_of_ble_eq_true rfl⟩, rfl, w_436, w_437⟩
theorem ok_X1_thingAt : MOKv MX1_thingAt 1 := ⟨⟨w_40, (by unfold cwM; exact w_207), nm_Overwalks_Shelf, pd_3, Nat.le_of_ble_eq_true rfl⟩, rfl, w_205, w_206⟩
theorem ok_X1_firstPlace : MOKv MX1_firstPlace 1 := ⟨⟨w_40, (by unfold cwM; exact w_250), nm_Overwalks_Shelf, pd_3, Nat.le_of_ble_eq_true rfl⟩, rfl, w_248, w_249⟩
theorem ok_X1_lastPlace : MOKv MX1_lastPlace 1 := ⟨⟨w_40, (by unfold cwM; exact w_1052), nm_Overwalks_Shelf, pd_3, Nat.le_of_ble_eq_true rfl⟩, rfl, w_1050, w_1051⟩
theorem ok_X1_holds : MOKv MX1_holds 1 := ⟨⟨w_40, (by unfold cwM; exact w_450), nm_Overwalks_Shelf, pd_2, Nat.le_of_ble_eq_true rfl⟩, rfl, w_448, w_449⟩
theorem ok_X1_countOf : MOKv MX1_countOf 1 := ⟨⟨w_40, (by unfold cwM; exact w_272), nm_Overwalks_Shelf, pd_3, Nat.le_of_ble_eq_true rfl⟩, rfl, w_270, w_271⟩
theorem ok_X1_risingPlace : MOKv MX1_risingPlace 1 := ⟨⟨w_40, (by unfold cwM; exact w_455), nm_Overwalks_Shelf, pd_3, Nat.le_of_ble_eq_true rfl⟩, rfl, w_453, w_454⟩
theorem ok_X1_layDown : MOKv MX1_layDown 1 := ⟨⟨w_40, (by unfold cwM; exact w_446), nm_Overwalks_Shelf, pd_2, Nat.le_of_ble_eq_true rfl⟩, rfl, w_444, w_445⟩
theorem ok_X1_layAhead : MOKv MX1_layAhead 2 := ⟨⟨w_40, (by unfold cwM; exact w_238), nm_Overwalks_Shelf, pd_4, Nat.le_of_ble_eq_true rfl⟩, rfl, w_236, w_237⟩
theorem ok_X1_lift : MOKv MX1_lift 1 := ⟨⟨w_40, (by unfold cwM; exact w_489), nm_Overwalks_Shelf, pd_3, Nat.le_of_ble_eq_true rfl⟩, rfl, w_487, w_488⟩
theorem ok_X1_liftAll : MOKv MX1_liftAll 0 := ⟨⟨w_40, (by unfold cwM; exact w_500), nm_Overwalks_Shelf, pd_5, Nat.le_of_ble_eq_true rfl⟩, rfl, w_498, w_499⟩
theorem ok_X1_exchange : MOKv MX1_exchange 2 := ⟨⟨w_40, (by unfold cwM; exact w_515), nm_Overwalks_Shelf, pd_6, Nat.le_of_ble_eq_true rfl⟩, rfl, w_513, w_514⟩
theorem ok_X1_reverse : MOKv MX1_reverse 2 := ⟨⟨w_40, (by unfold cwM; exact w_574), nm_Overwalks_Shelf, pd_7, Nat.le_of_ble_eq_true rfl⟩, rfl, w_572, w_573⟩
theorem ok_X1_moveOn : MOKv MX1_moveOn 1 := ⟨⟨w_40, (by unfold cwM; exact w_590), nm_Overwalks_Shelf, pd_8, Nat.le_of_ble_eq_true rfl⟩, rfl, w_588, w_589⟩
theorem ok_X1_becomeListOf : MOKv MX1_becomeListOf 2 := ⟨⟨w_40, (by unfold cwM; exact w_219), nm_Overwalks_Shelf, pd_9, Nat.le_of_ble_eq_true rfl⟩, rfl, w_217, w_218⟩
theorem ok_X1_rises : MOKv MX1_rises 0 := ⟨⟨w_40, (by unfold cwM; exact w_242), nm_Overwalks_Shelf, pd_1, Nat.le_of_ble_eq_true rfl⟩, rfl, w_240, w_241⟩
theorem ok_X1_hasEachOnce : MOKv MX1_hasEachOnce 0 := ⟨⟨w_40, (by unfold cwM; exact w_246), nm_Overwalks_Shelf, pd_1, Nat.le_of_ble_eq_true rfl⟩, rfl, w_244, w_245⟩
theorem ok_X2_init : MOKi MX2_init 1 := ⟨⟨w_43, (by unfold cwM; exact w_115), nm_Overwalks_Walk, pd_10, Nat.le_of_ble_eq_true rfl⟩, rfl, w_114, rfl, rfl⟩
theorem ok_X2_begin : MOKv MX2_begin 3 := ⟨⟨w_43, (by unfold cwM; exact w_187), nm_Overwalks_Walk, pd_11, Nat.le_of_ble_eq_true rfl⟩, rfl, w_185, w_186⟩
theorem ok_X2_isStale : MOKv MX2_isStale 0 := ⟨⟨w_43, (by unfold cwM; exact w_195), nm_Overwalks_Walk, pd_1, Nat.le_of_ble_eq_true rfl⟩, rfl, w_193, w_194⟩
theorem ok_X2_ahead : MOKv MX2_ahead 0 := ⟨⟨w_43, (by unfold cwM; exact w_199), nm_Overwalks_Walk, pd_12, Nat.le_of_ble_eq_true rfl⟩, rfl, w_197, w_198⟩
theorem ok_X2_hasMore : MOKv MX2_hasMore 0 := ⟨⟨w_43, (by unfold cwM; exact w_191), nm_Overwalks_Walk, pd_1, Nat.le_of_ble_eq_true rfl⟩, rfl, w_189, w_190⟩
theorem ok_X2_canGiveAll : MOKv MX2_canGiveAll 0 := ⟨⟨w_43, (by unfold cwM; exact w_676), nm_Overwalks_Walk, pd_1, Nat.le_of_ble_eq_true rfl⟩, rfl, w_674, w_675⟩
theorem ok_X2_canTakeOut : MOKv MX2_canTakeOut 0 := ⟨⟨w_43, (by unfold cwM; exact w_661), nm_Overwalks_Walk, pd_1, Nat.le_of_ble_eq_true rfl⟩, rfl, w_659, w_660⟩
theorem ok_X2_give : MOKv MX2_give 0 := ⟨⟨w_43, (by unfold cwM; exact w_203), nm_Overwalks_Walk, pd_12, Nat.le_of_ble_eq_true rfl⟩, rfl, w_201, w_202⟩
theorem ok_X2_giveUpTo : MOKv MX2_giveUpTo 1 := ⟨⟨w_43, (by unfold cwM; exact w_224), nm_Overwalks_Walk, pd_3, Nat.le_of_ble_eq_true rfl⟩, rfl, w_222, w_223⟩
theorem ok_X2_tookOut : MOKv MX2_tookOut 0 := ⟨⟨w_43, (by unfold cwM; exact w_665), nm_Overwalks_Walk, pd_5, Nat.le_of_ble_eq_true rfl⟩, rfl, w_663, w_664⟩
theorem ok_X3_init : MOKi MX3_init 0 := ⟨⟨w_39, (by unfold cwM; exact w_67), nm_Overwalks, pd_5, Nat.le_of_ble_eq_true rfl⟩, rfl, w_66, rfl, rfl⟩
theorem ok_X3_put : MOKv MX3_put 2 := ⟨⟨w_39, (by unfold cwM; exact w_401), nm_Overwalks, pd_6, Nat.le_of_ble_eq_true rfl⟩, rfl, w_399, w_400⟩
theorem ok_X3_putAll : MOKv MX3_putAll 5 := ⟨⟨w_39, (by unfold cwM; exact w_463), nm_Overwalks, pd_13, Nat.le_of_ble_eq_true rfl⟩, rfl, w_461, w_462⟩
theorem ok_X3_take : MOKv MX3_take 2 := ⟨⟨w_39, (by unfold cwM; exact w_480), nm_Overwalks, pd_6, Nat.le_of_ble_eq_true rfl⟩, rfl, w_478, w_479⟩
theorem ok_X3_clear : MOKv MX3_clear 1 := ⟨⟨w_39, (by unfold cwM; exact w_496), nm_Overwalks, pd_3, Nat.le_of_ble_eq_true rfl⟩, rfl, w_494, w_495⟩
theorem ok_X3_pair : MOKv MX3_pair 2 := ⟨⟨w_39, (by unfold cwM; exact w_507), nm_Overwalks, pd_6, Nat.le_of_ble_eq_true rfl⟩, rfl, w_505, w_506⟩
theorem ok_X3_pour : MOKv MX3_pour 2 := ⟨⟨w_39, (by unfold cwM; exact w_523), nm_Overwalks, pd_6, Nat.le_of_ble_eq_true rfl⟩, rfl, w_521, w_522⟩
theorem ok_X3_change : MOKv MX3_change 3 := ⟨⟨w_39, (by unfold cwM; exact w_540), nm_Overwalks, pd_14, Nat.le_of_ble_eq_true rfl⟩, rfl, w_538, w_539⟩
theorem ok_X3_insert : MOKv MX3_insert 3 := ⟨⟨w_39, (by unfold cwM; exact w_556), nm_Overwalks, pd_14, Nat.le_of_ble_eq_true rfl⟩, rfl, w_554, w_555⟩
theorem ok_X3_remove : MOKv MX3_remove 2 := ⟨⟨w_39, (by unfold cwM; exact w_563), nm_Overwalks, pd_6, Nat.le_of_ble_eq_true rfl⟩, rfl, w_561, w_562⟩
theorem ok_X3_turn : MOKv MX3_turn 1 := ⟨⟨w_39, (by unfold cwM; exact w_570), nm_Overwalks, pd_3, Nat.le_of_ble_eq_true rfl⟩, rfl, w_568, w_569⟩
theorem ok_X3_rotate : MOKv MX3_rotate 2 := ⟨⟨w_39, (by unfold cwM; exact w_582), nm_Overwalks, pd_6, Nat.le_of_ble_eq_true rfl⟩, rfl, w_580, w_581⟩
theorem ok_X3_swap : MOKv MX3_swap 3 := ⟨⟨w_39, (by unfold cwM; exact w_598), nm_Overwalks, pd_14, Nat.le_of_ble_eq_true rfl⟩, rfl, w_596, w_597⟩
theorem ok_X3_fill : MOKv MX3_fill 2 := ⟨⟨w_39, (by unfold cwM; exact w_605), nm_Overwalks, pd_6, Nat.le_of_ble_eq_true rfl⟩, rfl, w_603, w_604⟩
theorem ok_X3_replace : MOKv MX3_replace 3 := ⟨⟨w_39, (by unfold cwM; exact w_612), nm_Overwalks, pd_14, Nat.le_of_ble_eq_true rfl⟩, rfl, w_610, w_611⟩
theorem ok_X3_copies : MOKv MX3_copies 3 := ⟨⟨w_39, (by unfold cwM; exact w_619), nm_Overwalks, pd_14, Nat.le_of_ble_eq_true rfl⟩, rfl, w_617, w_618⟩
theorem ok_X3_walk : MOKv MX3_walk 3 := ⟨⟨w_39, (by unfold cwM; exact w_630), nm_Overwalks, pd_14, Nat.le_of_ble_eq_true rfl⟩, rfl, w_628, w_629⟩
theorem ok_X3_next : MOKv MX3_next 1 := ⟨⟨w_39, (by unfold cwM; exact w_639), nm_Overwalks, pd_3, Nat.le_of_ble_eq_true rfl⟩, rfl, w_637, w_638⟩
theorem ok_X3_more : MOKv MX3_more 1 := ⟨⟨w_39, (by unfold cwM; exact w_650), nm_Overwalks, pd_3, Nat.le_of_ble_eq_true rfl⟩, rfl, w_648, w_649⟩
theorem ok_X3_takeOut : MOKv MX3_takeOut 1 := ⟨⟨w_39, (by unfold cwM; exact w_657), nm_Overwalks, pd_3, Nat.le_of_ble_eq_true rfl⟩, rfl, w_655, w_656⟩
theorem ok_X3_rest : MOKv MX3_rest 1 := ⟨⟨w_39, (by unfold cwM; exact w_672), nm_Overwalks, pd_15, Nat.le_of_ble_eq_true rfl⟩, rfl, w_670, w_671⟩
theorem ok_X3_keepRest : MOKv MX3_keepRest 2 := ⟨⟨w_39, (by unfold cwM; exact w_958), nm_Overwalks, pd_6, Nat.le_of_ble_eq_true rfl⟩, rfl, w_956, w_957⟩
theorem ok_X3_keep : MOKv MX3_keep 2 := ⟨⟨w_39, (by unfold cwM; exact w_970), nm_Overwalks, pd_6, Nat.le_of_ble_eq_true rfl⟩, rfl, w_968, w_969⟩
theorem ok_X3_drop : MOKv MX3_drop 1 := ⟨⟨w_39, (by unfold cwM; exact w_977), nm_Overwalks, pd_3, Nat.le_of_ble_eq_true rfl⟩, rfl, w_975, w_976⟩
theorem ok_X3_skip : MOKv MX3_skip 2 := ⟨⟨w_39, (by unfold cwM; exact w_984), nm_Overwalks, pd_6, Nat.le_of_ble_eq_true rfl⟩, rfl, w_982, w_983⟩
theorem ok_X3_pourRest : MOKv MX3_pourRest 2 := ⟨⟨w_39, (by unfold cwM; exact w_991), nm_Overwalks, pd_6, Nat.le_of_ble_eq_true rfl⟩, rfl, w_989, w_990⟩
theorem ok_X3_zip : MOKv MX3_zip 2 := ⟨⟨w_39, (by unfold cwM; exact w_998), nm_Overwalks, pd_16, Nat.le_of_ble_eq_true rfl⟩, rfl, w_996, w_997⟩
theorem ok_X3_text : MOKv MX3_text 1 := ⟨⟨w_39, (by unfold cwM; exact w_1006), nm_Overwalks, pd_15, Nat.le_of_ble_eq_true rfl⟩, rfl, w_1004, w_1005⟩
theorem ok_X3_list : MOKv MX3_list 1 := ⟨⟨w_39, (by unfold cwM; exact w_1013), nm_Overwalks, pd_15, Nat.le_of_ble_eq_true rfl⟩, rfl, w_1011, w_1012⟩
theorem ok_X3_size : MOKv MX3_size 1 := ⟨⟨w_39, (by unfold cwM; exact w_1020), nm_Overwalks, pd_3, Nat.le_of_ble_eq_true rfl⟩, rfl, w_1018, w_1019⟩
theorem ok_X3_isEmpty : MOKv MX3_isEmpty 1 := ⟨⟨w_39, (by unfold cwM; exact w_1027), nm_Overwalks, pd_2, Nat.le_of_ble_eq_true rfl⟩, rfl, w_1025, w_1026⟩
theorem ok_X3_has : MOKv MX3_has 2 := ⟨⟨w_39, (by unfold cwM; exact w_1034), nm_Overwalks, pd_6, Nat.le_of_ble_eq_true rfl⟩, rfl, w_1032, w_1033⟩
theorem ok_X3_often : MOKv MX3_often 2 := ⟨⟨w_39, (by unfold cwM; exact w_1041), nm_Overwalks, pd_6, Nat.le_of_ble_eq_true rfl⟩, rfl, w_1039, w_1040⟩
theorem ok_X3_placeOf : MOKv MX3_placeOf 3 := ⟨⟨w_39, (by unfold cwM; exact w_1048), nm_Overwalks, pd_17, Nat.le_of_ble_eq_true rfl⟩, rfl, w_1046, w_1047⟩
theorem ok_X3_disjoint : MOKv MX3_disjoint 2 := ⟨⟨w_39, (by unfold cwM; exact w_1059), nm_Overwalks, pd_6, Nat.le_of_ble_eq_true rfl⟩, rfl, w_1057, w_1058⟩
theorem ok_X3_end : MOKv MX3_end 2 := ⟨⟨w_39, (by unfold cwM; exact w_1066), nm_Overwalks, pd_18, Nat.le_of_ble_eq_true rfl⟩, rfl, w_1064, w_1065⟩
theorem ok_X3_code : MOKv MX3_code 1 := ⟨⟨w_39, (by unfold cwM; exact w_1075), nm_Overwalks, pd_3, Nat.le_of_ble_eq_true rfl⟩, rfl, w_1073, w_1074⟩
theorem ok_X3_areAlike : MOKv MX3_areAlike 2 := ⟨⟨w_39, (by unfold cwM; exact w_1082), nm_Overwalks, pd_4, Nat.le_of_ble_eq_true rfl⟩, rfl, w_1080, w_1081⟩
theorem ok_X3_first : MOKv MX3_first 2 := ⟨⟨w_39, (by unfold cwM; exact w_1089), nm_Overwalks, pd_18, Nat.le_of_ble_eq_true rfl⟩, rfl, w_1087, w_1088⟩
theorem ok_X3_valueOf : MOKv MX3_valueOf 1 := ⟨⟨w_39, (by unfold cwM; exact w_1096), nm_Overwalks, pd_3, Nat.le_of_ble_eq_true rfl⟩, rfl, w_1094, w_1095⟩
theorem ok_X3_ofWalk : MOKv MX3_ofWalk 2 := ⟨⟨w_39, (by unfold cwM; exact w_356), nm_Overwalks, pd_6, Nat.le_of_ble_eq_true rfl⟩, rfl, w_354, w_355⟩
theorem ok_X3_house : MOKv MX3_house 1 := ⟨⟨w_39, (by unfold cwM; exact w_260), nm_Overwalks, pd_3, Nat.le_of_ble_eq_true rfl⟩, rfl, w_258, w_259⟩
theorem ok_X3_knock : MOKv MX3_knock 0 := ⟨⟨w_39, (by unfold cwM; exact w_175), nm_Overwalks, pd_12, Nat.le_of_ble_eq_true rfl⟩, rfl, w_173, w_174⟩
theorem ok_X3_isSound : MOKv MX3_isSound 0 := ⟨⟨w_39, (by unfold cwM; exact w_179), nm_Overwalks, pd_1, Nat.le_of_ble_eq_true rfl⟩, rfl, w_177, w_178⟩
theorem ok_X3_digest : MOKv MX3_digest 0 := ⟨⟨w_39, (by unfold cwM; exact w_254), nm_Overwalks, pd_19, Nat.le_of_ble_eq_true rfl⟩, rfl, w_252, w_253⟩
theorem ok_X3_shelfAt : MOKv MX3_shelfAt 1 := ⟨⟨w_39, (by unfold cwM; exact w_405), nm_Overwalks, pd_20, Nat.le_of_ble_eq_true rfl⟩, rfl, w_404, w_9⟩
theorem ok_X3_rowAt : MOKv MX3_rowAt 1 := ⟨⟨w_39, (by unfold cwM; exact w_544), nm_Overwalks, pd_20, Nat.le_of_ble_eq_true rfl⟩, rfl, w_543, w_12⟩
theorem ok_X3_listAt : MOKv MX3_listAt 1 := ⟨⟨w_39, (by unfold cwM; exact w_962), nm_Overwalks, pd_20, Nat.le_of_ble_eq_true rfl⟩, rfl, w_961, w_13⟩
theorem ok_X3_walkAt : MOKv MX3_walkAt 1 := ⟨⟨w_39, (by unfold cwM; exact w_360), nm_Overwalks, pd_21, Nat.le_of_ble_eq_true rfl⟩, rfl, w_359, w_8⟩
theorem ok_X3_requireMade : MOKs MX3_requireMade 1 := ⟨⟨w_39, (by unfold cwM; exact w_642), nm_Overwalks, pd_22, Nat.le_of_ble_eq_true rfl⟩, w_641⟩
theorem ok_X3_requirePlace : MOKs MX3_requirePlace 2 := ⟨⟨w_39, (by unfold cwM; exact w_548), nm_Overwalks, pd_7, Nat.le_of_ble_eq_true rfl⟩, w_547⟩
theorem ok_X3_requireThing : MOKs MX3_requireThing 1 := ⟨⟨w_39, (by unfold cwM; exact w_510), nm_Overwalks, pd_8, Nat.le_of_ble_eq_true rfl⟩, w_509⟩
theorem ok_X3_requireThingOrNothing : MOKs MX3_requireThingOrNothing 1 := ⟨⟨w_39, (by unfold cwM; exact w_409), nm_Overwalks, pd_8, Nat.le_of_ble_eq_true rfl⟩, w_408⟩
theorem ok_X3_requireThingNothingOrNone : MOKs MX3_requireThingNothingOrNone 1 := ⟨⟨w_39, (by unfold cwM; exact w_466), nm_Overwalks, pd_8, Nat.le_of_ble_eq_true rfl⟩, w_465⟩
theorem ok_X3_requireUpToRoom : MOKs MX3_requireUpToRoom 1 := ⟨⟨w_39, (by unfold cwM; exact w_622), nm_Overwalks, pd_8, Nat.le_of_ble_eq_true rfl⟩, w_621⟩
theorem ok_X3_requireRoom : MOKs MX3_requireRoom 2 := ⟨⟨w_39, (by unfold cwM; exact w_413), nm_Overwalks, pd_9, Nat.le_of_ble_eq_true rfl⟩, w_412⟩
theorem ok_X3_refuse : MOKv MX3_refuse 0 := ⟨⟨w_39, (by unfold cwM; exact w_442), nm_Overwalks, pd_12, Nat.le_of_ble_eq_true rfl⟩, rfl, w_441, w_10⟩
theorem ok_X3_oneIf : MOKs MX3_oneIf 1 := ⟨⟨w_39, (by unfold cwM; exact w_279), nm_Overwalks, pd_23, Nat.le_of_ble_eq_true rfl⟩, w_278⟩
theorem ok_X3_countToFirstNone : MOKs MX3_countToFirstNone 4 := ⟨⟨w_39, (by unfold cwM; exact w_470), nm_Overwalks, pd_24, Nat.le_of_ble_eq_true rfl⟩, w_469⟩
theorem ok_X3_oneOfFour : MOKs MX3_oneOfFour 5 := ⟨⟨w_39, (by unfold cwM; exact w_473), nm_Overwalks, pd_13, Nat.le_of_ble_eq_true rfl⟩, w_472⟩
theorem ok_X3_liftFrom : MOKv MX3_liftFrom 2 := ⟨⟨w_39, (by unfold cwM; exact w_485), nm_Overwalks, pd_9, Nat.le_of_ble_eq_true rfl⟩, rfl, w_484, w_11⟩
theorem ok_X3_cannotPour : MOKs MX3_cannotPour 2 := ⟨⟨w_39, (by unfold cwM; exact w_526), nm_Overwalks, pd_25, Nat.le_of_ble_eq_true rfl⟩, w_525⟩
theorem ok_X3_hasNothingsThatAreNotTaken : MOKs MX3_hasNothingsThatAreNotTaken 2 := ⟨⟨w_39, (by unfold cwM; exact w_529), nm_Overwalks, pd_25, Nat.le_of_ble_eq_true rfl⟩, w_528⟩
theorem ok_X3_pourBehind : MOKs MX3_pourBehind 3 := ⟨⟨w_39, (by unfold cwM; exact w_533), nm_Overwalks, pd_26, Nat.le_of_ble_eq_true rfl⟩, w_532⟩
theorem ok_X3_listRest : MOKs MX3_listRest 2 := ⟨⟨w_39, (by unfold cwM; exact w_214), nm_Overwalks, pd_27, Nat.le_of_ble_eq_true rfl⟩, w_213⟩
theorem ok_X3_haveTheSame : MOKs MX3_haveTheSame 2 := ⟨⟨w_39, (by unfold cwM; exact w_229), nm_Overwalks, pd_25, Nat.le_of_ble_eq_true rfl⟩, w_228⟩
theorem ok_X3_textBehind : MOKs MX3_textBehind 2 := ⟨⟨w_39, (by unfold cwM; exact w_680), nm_Overwalks, pd_28, Nat.le_of_ble_eq_true rfl⟩, w_679⟩
theorem ok_X3_appendBlankBehindFirst : MOKs MX3_appendBlankBehindFirst 2 := ⟨⟨w_39, (by unfold cwM; exact w_714), nm_Overwalks, pd_29, Nat.le_of_ble_eq_true rfl⟩, w_713⟩
theorem ok_X3_appendThing : MOKs MX3_appendThing 2 := ⟨⟨w_39, (by unfold cwM; exact w_812), nm_Overwalks, pd_29, Nat.le_of_ble_eq_true rfl⟩, w_811⟩
theorem ok_X3_countThings : MOKv MX3_countThings 0 := ⟨⟨w_39, (by unfold cwM; exact w_264), nm_Overwalks, pd_12, Nat.le_of_ble_eq_true rfl⟩, rfl, w_263, w_3⟩
theorem ok_X3_countNothings : MOKv MX3_countNothings 0 := ⟨⟨w_39, (by unfold cwM; exact w_268), nm_Overwalks, pd_12, Nat.le_of_ble_eq_true rfl⟩, rfl, w_267, w_4⟩
theorem ok_X3_countWalks : MOKv MX3_countWalks 0 := ⟨⟨w_39, (by unfold cwM; exact w_276), nm_Overwalks, pd_12, Nat.le_of_ble_eq_true rfl⟩, rfl, w_275, w_5⟩
theorem ok_X3_countStaleWalks : MOKv MX3_countStaleWalks 0 := ⟨⟨w_39, (by unfold cwM; exact w_283), nm_Overwalks, pd_12, Nat.le_of_ble_eq_true rfl⟩, rfl, w_282, w_6⟩
theorem ok_X3_giveTheSame : MOKv MX3_giveTheSame 3 := ⟨⟨w_39, (by unfold cwM; exact w_183), nm_Overwalks, pd_30, Nat.le_of_ble_eq_true rfl⟩, rfl, w_182, w_0⟩
theorem ok_X3_isItsList : MOKv MX3_isItsList 1 := ⟨⟨w_39, (by unfold cwM; exact w_211), nm_Overwalks, pd_2, Nat.le_of_ble_eq_true rfl⟩, rfl, w_210, w_1⟩
theorem ok_X3_isItsListBehindOneStep : MOKv MX3_isItsListBehindOneStep 1 := ⟨⟨w_39, (by unfold cwM; exact w_234), nm_Overwalks, pd_2, Nat.le_of_ble_eq_true rfl⟩, rfl, w_233, w_2⟩
theorem ok_X4_init : MOKi MX4_init 0 := ⟨⟨w_45, (by unfold cwM; exact w_383), nm_OverwalksLaw_Out, pd_5, Nat.le_of_ble_eq_true rfl⟩, rfl, w_382, rfl, rfl⟩
theorem ok_X5_init : MOKi MX5_init 0 := ⟨⟨w_44, (by unfold cwM; exact w_1109), nm_OverwalksModel, pd_5, Nat.le_of_ble_eq_true rfl⟩, rfl, w_1108, rfl, rfl⟩
theorem ok_X5_thrown : MOKv MX5_thrown 0 := ⟨⟨w_44, (by unfold cwM; exact w_1160), nm_OverwalksModel, pd_12, Nat.le_of_ble_eq_true rfl⟩, rfl, w_1158, w_1159⟩
theorem ok_X5_isIn : MOKs MX5_isIn 3 := ⟨⟨w_44, (by unfold cwM; exact w_1170), nm_OverwalksModel, pd_30, Nat.le_of_ble_eq_true rfl⟩, w_1169⟩
theorem ok_X5_one : MOKs MX5_one 1 := ⟨⟨w_44, (by unfold cwM; exact w_1198), nm_OverwalksModel, pd_23, Nat.le_of_ble_eq_true rfl⟩, w_1197⟩
theorem ok_X5_isStopped : MOKv MX5_isStopped 3 := ⟨⟨w_44, (by unfold cwM; exact w_1177), nm_OverwalksModel, pd_31, Nat.le_of_ble_eq_true rfl⟩, rfl, w_1176, w_14⟩
theorem ok_X5_isStopped_ : MOKv MX5_isStopped_ 2 := ⟨⟨w_44, (by unfold cwM; exact w_1218), nm_OverwalksModel, pd_32, Nat.le_of_ble_eq_true rfl⟩, rfl, w_1217, w_20⟩
theorem ok_X5_isStopped__ : MOKv MX5_isStopped__ 1 := ⟨⟨w_44, (by unfold cwM; exact w_1238), nm_OverwalksModel, pd_33, Nat.le_of_ble_eq_true rfl⟩, rfl, w_1237, w_24⟩
theorem ok_X5_no : MOKv MX5_no 0 := ⟨⟨w_44, (by unfold cwM; exact w_1187), nm_OverwalksModel, pd_12, Nat.le_of_ble_eq_true rfl⟩, rfl, w_1186, w_15⟩
theorem ok_X5_noText : MOKv MX5_noText 0 := ⟨⟨w_44, (by unfold cwM; exact w_1345), nm_OverwalksModel, pd_34, Nat.le_of_ble_eq_true rfl⟩, rfl, w_1344, w_33⟩
theorem ok_X5_isNone : MOKs MX5_isNone 1 := ⟨⟨w_44, (by unfold cwM; exact w_1167), nm_OverwalksModel, pd_2, Nat.le_of_ble_eq_true rfl⟩, w_1166⟩
theorem ok_X5_isNoRow : MOKs MX5_isNoRow 1 := ⟨⟨w_44, (by unfold cwM; exact w_1269), nm_OverwalksModel, pd_2, Nat.le_of_ble_eq_true rfl⟩, w_1268⟩
theorem ok_X5_isNoList : MOKs MX5_isNoList 1 := ⟨⟨w_44, (by unfold cwM; exact w_1370), nm_OverwalksModel, pd_2, Nat.le_of_ble_eq_true rfl⟩, w_1369⟩
theorem ok_X5_isNoThing : MOKs MX5_isNoThing 1 := ⟨⟨w_44, (by unfold cwM; exact w_1173), nm_OverwalksModel, pd_2, Nat.le_of_ble_eq_true rfl⟩, w_1172⟩
theorem ok_X5_isTable : MOKs MX5_isTable 1 := ⟨⟨w_44, (by unfold cwM; exact w_1180), nm_OverwalksModel, pd_2, Nat.le_of_ble_eq_true rfl⟩, w_1179⟩
theorem ok_X5_takesNothing : MOKs MX5_takesNothing 1 := ⟨⟨w_44, (by unfold cwM; exact w_1183), nm_OverwalksModel, pd_2, Nat.le_of_ble_eq_true rfl⟩, w_1182⟩
theorem ok_X5_isNoPlace : MOKv MX5_isNoPlace 2 := ⟨⟨w_44, (by unfold cwM; exact w_1266), nm_OverwalksModel, pd_4, Nat.le_of_ble_eq_true rfl⟩, rfl, w_1265, w_28⟩
theorem ok_X5_hasNothing : MOKv MX5_hasNothing 1 := ⟨⟨w_44, (by unfold cwM; exact w_1254), nm_OverwalksModel, pd_2, Nat.le_of_ble_eq_true rfl⟩, rfl, w_1253, w_26⟩
theorem ok_X5_count : MOKv MX5_count 2 := ⟨⟨w_44, (by unfold cwM; exact w_1195), nm_OverwalksModel, pd_6, Nat.le_of_ble_eq_true rfl⟩, rfl, w_1194, w_17⟩
theorem ok_X5_firstPlace : MOKv MX5_firstPlace 2 := ⟨⟨w_44, (by unfold cwM; exact w_1222), nm_OverwalksModel, pd_6, Nat.le_of_ble_eq_true rfl⟩, rfl, w_1221, w_21⟩
theorem ok_X5_comeAt : MOKv MX5_comeAt 3 := ⟨⟨w_44, (by unfold cwM; exact w_1202), nm_OverwalksModel, pd_35, Nat.le_of_ble_eq_true rfl⟩, rfl, w_1201, w_18⟩
theorem ok_X5_goAt : MOKv MX5_goAt 2 := ⟨⟨w_44, (by unfold cwM; exact w_1230), nm_OverwalksModel, pd_7, Nat.le_of_ble_eq_true rfl⟩, rfl, w_1229, w_23⟩
theorem ok_X5_leave : MOKv MX5_leave 2 := ⟨⟨w_44, (by unfold cwM; exact w_1226), nm_OverwalksModel, pd_7, Nat.le_of_ble_eq_true rfl⟩, rfl, w_1225, w_22⟩
theorem ok_X5_come : MOKv MX5_come 2 := ⟨⟨w_44, (by unfold cwM; exact w_1191), nm_OverwalksModel, pd_4, Nat.le_of_ble_eq_true rfl⟩, rfl, w_1190, w_16⟩
theorem ok_X5_comeAll : MOKv MX5_comeAll 3 := ⟨⟨w_44, (by unfold cwM; exact w_1210), nm_OverwalksModel, pd_36, Nat.le_of_ble_eq_true rfl⟩, rfl, w_1209, w_19⟩
theorem ok_X5_picture : MOKv MX5_picture 2 := ⟨⟨w_44, (by unfold cwM; exact w_1258), nm_OverwalksModel, pd_37, Nat.le_of_ble_eq_true rfl⟩, rfl, w_1257, w_27⟩
theorem ok_X5_empty : MOKv MX5_empty 1 := ⟨⟨w_44, (by unfold cwM; exact w_1242), nm_OverwalksModel, pd_8, Nat.le_of_ble_eq_true rfl⟩, rfl, w_1241, w_25⟩
theorem ok_X5_put : MOKv MX5_put 2 := ⟨⟨w_44, (by unfold cwM; exact w_1164), nm_OverwalksModel, pd_6, Nat.le_of_ble_eq_true rfl⟩, rfl, w_1162, w_1163⟩
theorem ok_X5_putAll : MOKv MX5_putAll 5 := ⟨⟨w_44, (by unfold cwM; exact w_1206), nm_OverwalksModel, pd_13, Nat.le_of_ble_eq_true rfl⟩, rfl, w_1204, w_1205⟩
theorem ok_X5_take : MOKv MX5_take 2 := ⟨⟨w_44, (by unfold cwM; exact w_1214), nm_OverwalksModel, pd_6, Nat.le_of_ble_eq_true rfl⟩, rfl, w_1212, w_1213⟩
theorem ok_X5_clear : MOKv MX5_clear 1 := ⟨⟨w_44, (by unfold cwM; exact w_1234), nm_OverwalksModel, pd_3, Nat.le_of_ble_eq_true rfl⟩, rfl, w_1232, w_1233⟩
theorem ok_X5_pair : MOKv MX5_pair 2 := ⟨⟨w_44, (by unfold cwM; exact w_1246), nm_OverwalksModel, pd_6, Nat.le_of_ble_eq_true rfl⟩, rfl, w_1244, w_1245⟩
theorem ok_X5_pour : MOKv MX5_pour 2 := ⟨⟨w_44, (by unfold cwM; exact w_1250), nm_OverwalksModel, pd_6, Nat.le_of_ble_eq_true rfl⟩, rfl, w_1248, w_1249⟩
theorem ok_X5_change : MOKv MX5_change 3 := ⟨⟨w_44, (by unfold cwM; exact w_1262), nm_OverwalksModel, pd_14, Nat.le_of_ble_eq_true rfl⟩, rfl, w_1260, w_1261⟩
theorem ok_X5_insert : MOKv MX5_insert 3 := ⟨⟨w_44, (by unfold cwM; exact w_1273), nm_OverwalksModel, pd_14, Nat.le_of_ble_eq_true rfl⟩, rfl, w_1271, w_1272⟩
theorem ok_X5_remove : MOKv MX5_remove 2 := ⟨⟨w_44, (by unfold cwM; exact w_1277), nm_OverwalksModel, pd_6, Nat.le_of_ble_eq_true rfl⟩, rfl, w_1275, w_1276⟩
theorem ok_X5_turn : MOKv MX5_turn 1 := ⟨⟨w_44, (by unfold cwM; exact w_1281), nm_OverwalksModel, pd_3, Nat.le_of_ble_eq_true rfl⟩, rfl, w_1279, w_1280⟩
theorem ok_X5_rotate : MOKv MX5_rotate 2 := ⟨⟨w_44, (by unfold cwM; exact w_1285), nm_OverwalksModel, pd_6, Nat.le_of_ble_eq_true rfl⟩, rfl, w_1283, w_1284⟩
theorem ok_X5_swap : MOKv MX5_swap 3 := ⟨⟨w_44, (by unfold cwM; exact w_1289), nm_OverwalksModel, pd_14, Nat.le_of_ble_eq_true rfl⟩, rfl, w_1287, w_1288⟩
theorem ok_X5_fill : MOKv MX5_fill 2 := ⟨⟨w_44, (by unfold cwM; exact w_1293), nm_OverwalksModel, pd_6, Nat.le_of_ble_eq_true rfl⟩, rfl, w_1291, w_1292⟩
theorem ok_X5_replace : MOKv MX5_replace 3 := ⟨⟨w_44, (by unfold cwM; exact w_1297), nm_OverwalksModel, pd_14, Nat.le_of_ble_eq_true rfl⟩, rfl, w_1295, w_1296⟩
theorem ok_X5_copies : MOKv MX5_copies 3 := ⟨⟨w_44, (by unfold cwM; exact w_1301), nm_OverwalksModel, pd_14, Nat.le_of_ble_eq_true rfl⟩, rfl, w_1299, w_1300⟩
theorem ok_X5_isNoWalk : MOKs MX5_isNoWalk 1 := ⟨⟨w_44, (by unfold cwM; exact w_1308), nm_OverwalksModel, pd_2, Nat.le_of_ble_eq_true rfl⟩, w_1307⟩
theorem ok_X5_isUnmade : MOKv MX5_isUnmade 1 := ⟨⟨w_44, (by unfold cwM; exact w_1316), nm_OverwalksModel, pd_2, Nat.le_of_ble_eq_true rfl⟩, rfl, w_1315, w_29⟩
theorem ok_X5_isStale : MOKv MX5_isStale 1 := ⟨⟨w_44, (by unfold cwM; exact w_1320), nm_OverwalksModel, pd_2, Nat.le_of_ble_eq_true rfl⟩, rfl, w_1319, w_30⟩
theorem ok_X5_hasMore : MOKv MX5_hasMore 1 := ⟨⟨w_44, (by unfold cwM; exact w_1324), nm_OverwalksModel, pd_2, Nat.le_of_ble_eq_true rfl⟩, rfl, w_1323, w_31⟩
theorem ok_X5_give : MOKv MX5_give 1 := ⟨⟨w_44, (by unfold cwM; exact w_1328), nm_OverwalksModel, pd_3, Nat.le_of_ble_eq_true rfl⟩, rfl, w_1327, w_32⟩
theorem ok_X5_walk : MOKv MX5_walk 3 := ⟨⟨w_44, (by unfold cwM; exact w_1305), nm_OverwalksModel, pd_14, Nat.le_of_ble_eq_true rfl⟩, rfl, w_1303, w_1304⟩
theorem ok_X5_next : MOKv MX5_next 1 := ⟨⟨w_44, (by unfold cwM; exact w_1312), nm_OverwalksModel, pd_3, Nat.le_of_ble_eq_true rfl⟩, rfl, w_1310, w_1311⟩
theorem ok_X5_more : MOKv MX5_more 1 := ⟨⟨w_44, (by unfold cwM; exact w_1332), nm_OverwalksModel, pd_3, Nat.le_of_ble_eq_true rfl⟩, rfl, w_1330, w_1331⟩
theorem ok_X5_takeOut : MOKv MX5_takeOut 1 := ⟨⟨w_44, (by unfold cwM; exact w_1336), nm_OverwalksModel, pd_3, Nat.le_of_ble_eq_true rfl⟩, rfl, w_1334, w_1335⟩
theorem ok_X5_left : MOKv MX5_left 1 := ⟨⟨w_44, (by unfold cwM; exact w_1350), nm_OverwalksModel, pd_38, Nat.le_of_ble_eq_true rfl⟩, rfl, w_1349, w_34⟩
theorem ok_X5_sign : MOKs MX5_sign 1 := ⟨⟨w_44, (by unfold cwM; exact w_1360), nm_OverwalksModel, pd_15, Nat.le_of_ble_eq_true rfl⟩, w_1359⟩
theorem ok_X5_text : MOKs MX5_text 1 := ⟨⟨w_44, (by unfold cwM; exact w_1353), nm_OverwalksModel, pd_39, Nat.le_of_ble_eq_true rfl⟩, w_1352⟩
theorem ok_X5_rest : MOKv MX5_rest 1 := ⟨⟨w_44, (by unfold cwM; exact w_1340), nm_OverwalksModel, pd_15, Nat.le_of_ble_eq_true rfl⟩, rfl, w_1338, w_1339⟩
theorem ok_X5_made : MOKv MX5_made 2 := ⟨⟨w_44, (by unfold cwM; exact w_1374), nm_OverwalksModel, pd_40, Nat.le_of_ble_eq_true rfl⟩, rfl, w_1373, w_35⟩
theorem ok_X5_keepRest : MOKv MX5_keepRest 2 := ⟨⟨w_44, (by unfold cwM; exact w_1367), nm_OverwalksModel, pd_6, Nat.le_of_ble_eq_true rfl⟩, rfl, w_1365, w_1366⟩
theorem ok_X5_keep : MOKv MX5_keep 2 := ⟨⟨w_44, (by unfold cwM; exact w_1378), nm_OverwalksModel, pd_6, Nat.le_of_ble_eq_true rfl⟩, rfl, w_1376, w_1377⟩
theorem ok_X5_drop : MOKv MX5_drop 1 := ⟨⟨w_44, (by unfold cwM; exact w_1382), nm_OverwalksModel, pd_3, Nat.le_of_ble_eq_true rfl⟩, rfl, w_1380, w_1381⟩
theorem ok_X5_skip : MOKv MX5_skip 2 := ⟨⟨w_44, (by unfold cwM; exact w_1386), nm_OverwalksModel, pd_6, Nat.le_of_ble_eq_true rfl⟩, rfl, w_1384, w_1385⟩
theorem ok_X5_pourRest : MOKv MX5_pourRest 2 := ⟨⟨w_44, (by unfold cwM; exact w_1390), nm_OverwalksModel, pd_6, Nat.le_of_ble_eq_true rfl⟩, rfl, w_1388, w_1389⟩
theorem ok_X5_zip : MOKv MX5_zip 2 := ⟨⟨w_44, (by unfold cwM; exact w_1394), nm_OverwalksModel, pd_16, Nat.le_of_ble_eq_true rfl⟩, rfl, w_1392, w_1393⟩
theorem ok_X5_text_ : MOKv MX5_text_ 1 := ⟨⟨w_44, (by unfold cwM; exact w_1403), nm_OverwalksModel, pd_15, Nat.le_of_ble_eq_true rfl⟩, rfl, w_1401, w_1402⟩
theorem ok_X5_list : MOKv MX5_list 1 := ⟨⟨w_44, (by unfold cwM; exact w_1407), nm_OverwalksModel, pd_15, Nat.le_of_ble_eq_true rfl⟩, rfl, w_1405, w_1406⟩
theorem ok_X5_size : MOKv MX5_size 1 := ⟨⟨w_44, (by unfold cwM; exact w_1412), nm_OverwalksModel, pd_3, Nat.le_of_ble_eq_true rfl⟩, rfl, w_1410, w_1411⟩
theorem ok_X5_isEmpty : MOKv MX5_isEmpty 1 := ⟨⟨w_44, (by unfold cwM; exact w_1416), nm_OverwalksModel, pd_2, Nat.le_of_ble_eq_true rfl⟩, rfl, w_1414, w_1415⟩
theorem ok_X5_has : MOKv MX5_has 2 := ⟨⟨w_44, (by unfold cwM; exact w_1420), nm_OverwalksModel, pd_6, Nat.le_of_ble_eq_true rfl⟩, rfl, w_1418, w_1419⟩
theorem ok_X5_often : MOKv MX5_often 2 := ⟨⟨w_44, (by unfold cwM; exact w_1424), nm_OverwalksModel, pd_6, Nat.le_of_ble_eq_true rfl⟩, rfl, w_1422, w_1423⟩
theorem ok_X5_placeOf : MOKv MX5_placeOf 3 := ⟨⟨w_44, (by unfold cwM; exact w_1428), nm_OverwalksModel, pd_17, Nat.le_of_ble_eq_true rfl⟩, rfl, w_1426, w_1427⟩
theorem ok_X5_disjoint : MOKv MX5_disjoint 2 := ⟨⟨w_44, (by unfold cwM; exact w_1432), nm_OverwalksModel, pd_6, Nat.le_of_ble_eq_true rfl⟩, rfl, w_1430, w_1431⟩
theorem ok_X5_end : MOKv MX5_end 2 := ⟨⟨w_44, (by unfold cwM; exact w_1436), nm_OverwalksModel, pd_18, Nat.le_of_ble_eq_true rfl⟩, rfl, w_1434, w_1435⟩
theorem ok_X5_code : MOKv MX5_code 1 := ⟨⟨w_44, (by unfold cwM; exact w_1442), nm_OverwalksModel, pd_3, Nat.le_of_ble_eq_true rfl⟩, rfl, w_1440, w_1441⟩
theorem ok_X5_areAlike : MOKv MX5_areAlike 2 := ⟨⟨w_44, (by unfold cwM; exact w_1446), nm_OverwalksModel, pd_4, Nat.le_of_ble_eq_true rfl⟩, rfl, w_1444, w_1445⟩
theorem ok_X5_first : MOKv MX5_first 2 := ⟨⟨w_44, (by unfold cwM; exact w_1450), nm_OverwalksModel, pd_18, Nat.le_of_ble_eq_true rfl⟩, rfl, w_1448, w_1449⟩
theorem ok_X5_valueOf : MOKv MX5_valueOf 1 := ⟨⟨w_44, (by unfold cwM; exact w_1454), nm_OverwalksModel, pd_3, Nat.le_of_ble_eq_true rfl⟩, rfl, w_1452, w_1453⟩
theorem ok_X5_told : MOKv MX5_told 2 := ⟨⟨w_44, (by unfold cwM; exact w_1462), nm_OverwalksModel, pd_6, Nat.le_of_ble_eq_true rfl⟩, rfl, w_1461, w_36⟩
theorem ok_X5_ofWalk : MOKv MX5_ofWalk 2 := ⟨⟨w_44, (by unfold cwM; exact w_1458), nm_OverwalksModel, pd_6, Nat.le_of_ble_eq_true rfl⟩, rfl, w_1456, w_1457⟩
theorem ok_X5_houseTold : MOKv MX5_houseTold 1 := ⟨⟨w_44, (by unfold cwM; exact w_1470), nm_OverwalksModel, pd_3, Nat.le_of_ble_eq_true rfl⟩, rfl, w_1469, w_37⟩
theorem ok_X5_house : MOKv MX5_house 1 := ⟨⟨w_44, (by unfold cwM; exact w_1466), nm_OverwalksModel, pd_3, Nat.le_of_ble_eq_true rfl⟩, rfl, w_1464, w_1465⟩
theorem ok_X5_knock : MOKv MX5_knock 0 := ⟨⟨w_44, (by unfold cwM; exact w_1474), nm_OverwalksModel, pd_12, Nat.le_of_ble_eq_true rfl⟩, rfl, w_1472, w_1473⟩
theorem ok_X5_isSound : MOKv MX5_isSound 0 := ⟨⟨w_44, (by unfold cwM; exact w_1478), nm_OverwalksModel, pd_1, Nat.le_of_ble_eq_true rfl⟩, rfl, w_1476, w_1477⟩
theorem ok_X5_digest : MOKv MX5_digest 0 := ⟨⟨w_44, (by unfold cwM; exact w_1482), nm_OverwalksModel, pd_19, Nat.le_of_ble_eq_true rfl⟩, rfl, w_1480, w_1481⟩
theorem ok_J5_init_d00df : MOKi MJ5_init_d00df 1 := ⟨⟨w_53, (by unfold cwM; exact w_688), nm_java_lang_AbstractStringBuilder, pd_8, Nat.le_of_ble_eq_true rfl⟩, rfl, w_687, rfl, rfl⟩
theorem ok_J6_getChars_ba4f3 : MOKs MJ6_getChars_ba4f3 3 := ⟨⟨w_62, (by unfold cwM; exact w_825), nm_java_lang_Integer, pd_48, Nat.le_of_ble_eq_true rfl⟩, w_824⟩
theorem ok_J6_stringSize_0f7a4 : MOKs MJ6_stringSize_0f7a4 1 := ⟨⟨w_62, (by unfold cwM; exact w_822), nm_java_lang_Integer, pd_3, Nat.le_of_ble_eq_true rfl⟩, w_821⟩
theorem ok_J9_floorMod_7cf53 : MOKs MJ9_floorMod_7cf53 2 := ⟨⟨w_52, (by unfold cwM; exact w_586), nm_java_lang_Math, pd_6, Nat.le_of_ble_eq_true rfl⟩, w_585⟩
theorem ok_J9_max_7cf53 : MOKs MJ9_max_7cf53 2 := ⟨⟨w_52, (by unfold cwM; exact w_735), nm_java_lang_Math, pd_6, Nat.le_of_ble_eq_true rfl⟩, w_734⟩
theorem ok_J9_min_7cf53 : MOKs MJ9_min_7cf53 2 := ⟨⟨w_52, (by unfold cwM; exact w_753), nm_java_lang_Math, pd_6, Nat.le_of_ble_eq_true rfl⟩, w_752⟩
theorem ok_J0_init_81219 : MOKi MJ0_init_81219 1 := ⟨⟨w_55, (by unfold cwM; exact w_855), nm_java_lang_String, pd_49, Nat.le_of_ble_eq_true rfl⟩, rfl, w_854, rfl, rfl⟩
theorem ok_J0_length_8abf5 : MOKv MJ0_length_8abf5 0 := ⟨⟨w_55, (by unfold cwM; exact w_905), nm_java_lang_String, pd_12, Nat.le_of_ble_eq_true rfl⟩, rfl, w_903, w_904⟩
theorem ok_J0_isEmpty_aae02 : MOKv MJ0_isEmpty_aae02 0 := ⟨⟨w_55, (by unfold cwM; exact w_1398), nm_java_lang_String, pd_1, Nat.le_of_ble_eq_true rfl⟩, rfl, w_1396, w_1397⟩
theorem ok_J0_equals_9ea2d : MOKv MJ0_equals_9ea2d 1 := ⟨⟨w_55, (by unfold cwM; exact w_1488), nm_java_lang_String, pd_50, Nat.le_of_ble_eq_true rfl⟩, rfl, w_1486, w_1487⟩
theorem ok_J0_getBytes_840e7 : MOKv MJ0_getBytes_840e7 3 := ⟨⟨w_55, (by unfold cwM; exact w_923), nm_java_lang_String, pd_51, Nat.le_of_ble_eq_true rfl⟩, rfl, w_921, w_922⟩
theorem ok_J0_init_db425 : MOKi MJ0_init_db425 2 := ⟨⟨w_55, (by unfold cwM; exact w_858), nm_java_lang_String, pd_52, Nat.le_of_ble_eq_true rfl⟩, rfl, w_857, rfl, rfl⟩
theorem ok_J0_coder_7d493 : MOKv MJ0_coder_7d493 0 := ⟨⟨w_55, (by unfold cwM; exact w_909), nm_java_lang_String, pd_53, Nat.le_of_ble_eq_true rfl⟩, rfl, w_907, w_908⟩
theorem ok_J0_checkIndex_df160 : MOKs MJ0_checkIndex_df160 2 := ⟨⟨w_55, (by unfold cwM; exact w_806), nm_java_lang_String, pd_7, Nat.le_of_ble_eq_true rfl⟩, w_805⟩
theorem ok_J0_checkBoundsOffCount_cabcc : MOKs MJ0_checkBoundsOffCount_cabcc 3 := ⟨⟨w_55, (by unfold cwM; exact w_783), nm_java_lang_String, pd_14, Nat.le_of_ble_eq_true rfl⟩, w_782⟩
theorem ok_J0_checkBoundsBeginEnd_23922 : MOKs MJ0_checkBoundsBeginEnd_23922 3 := ⟨⟨w_55, (by unfold cwM; exact w_838), nm_java_lang_String, pd_35, Nat.le_of_ble_eq_true rfl⟩, w_837⟩
theorem ok_J4_init_da8c8 : MOKi MJ4_init_da8c8 0 := ⟨⟨w_54, (by unfold cwM; exact w_685), nm_java_lang_StringBuilder, pd_5, Nat.le_of_ble_eq_true rfl⟩, rfl, w_684, rfl, rfl⟩
theorem ok_J4_append_15ec4 : MOKv MJ4_append_15ec4 1 := ⟨⟨w_54, (by unfold cwM; exact w_891), nm_java_lang_StringBuilder, pd_54, Nat.le_of_ble_eq_true rfl⟩, rfl, w_889, w_890⟩
theorem ok_J4_append_cf468 : MOKv MJ4_append_cf468 1 := ⟨⟨w_54, (by unfold cwM; exact w_718), nm_java_lang_StringBuilder, pd_55, Nat.le_of_ble_eq_true rfl⟩, rfl, w_716, w_717⟩
theorem ok_J4_append_bf812 : MOKv MJ4_append_bf812 1 := ⟨⟨w_54, (by unfold cwM; exact w_816), nm_java_lang_StringBuilder, pd_56, Nat.le_of_ble_eq_true rfl⟩, rfl, w_814, w_815⟩
theorem ok_J4_toString_0e30d : MOKv MJ4_toString_0e30d 0 := ⟨⟨w_54, (by unfold cwM; exact w_850), nm_java_lang_StringBuilder, pd_34, Nat.le_of_ble_eq_true rfl⟩, rfl, w_848, w_849⟩
theorem ok_J1_canEncode_fc78d : MOKs MJ1_canEncode_fc78d 1 := ⟨⟨w_60, (by unfold cwM; exact w_764), nm_java_lang_StringLatin1, pd_57, Nat.le_of_ble_eq_true rfl⟩, w_763⟩
theorem ok_J1_equals_b5fdf : MOKs MJ1_equals_b5fdf 2 := ⟨⟨w_60, (by unfold cwM; exact w_1492), nm_java_lang_StringLatin1, pd_58, Nat.le_of_ble_eq_true rfl⟩, w_1491⟩
theorem ok_J1_inflate_0e8fd : MOKs MJ1_inflate_0e8fd 5 := ⟨⟨w_60, (by unfold cwM; exact w_771), nm_java_lang_StringLatin1, pd_59, Nat.le_of_ble_eq_true rfl⟩, w_770⟩
theorem ok_J2_newBytesFor_77867 : MOKs MJ2_newBytesFor_77867 1 := ⟨⟨w_56, (by unfold cwM; exact w_694), nm_java_lang_StringUTF16, pd_60, Nat.le_of_ble_eq_true rfl⟩, w_693⟩
theorem ok_J2_newBytesLength_0f7a4 : MOKs MJ2_newBytesLength_0f7a4 1 := ⟨⟨w_56, (by unfold cwM; exact w_697), nm_java_lang_StringUTF16, pd_3, Nat.le_of_ble_eq_true rfl⟩, w_696⟩
theorem ok_J2_putChar_b72d1 : MOKs MJ2_putChar_b72d1 3 := ⟨⟨w_56, (by unfold cwM; exact w_791), nm_java_lang_StringUTF16, pd_61, Nat.le_of_ble_eq_true rfl⟩, w_790⟩
theorem ok_J2_getChar_3b067 : MOKs MJ2_getChar_3b067 2 := ⟨⟨w_56, (by unfold cwM; exact w_936), nm_java_lang_StringUTF16, pd_62, Nat.le_of_ble_eq_true rfl⟩, w_935⟩
theorem ok_J2_length_9d52b : MOKs MJ2_length_9d52b 1 := ⟨⟨w_56, (by unfold cwM; exact w_780), nm_java_lang_StringUTF16, pd_63, Nat.le_of_ble_eq_true rfl⟩, w_779⟩
theorem ok_J2_coderFromArrayLen_85cad : MOKs MJ2_coderFromArrayLen_85cad 2 := ⟨⟨w_56, (by unfold cwM; exact w_940), nm_java_lang_StringUTF16, pd_64, Nat.le_of_ble_eq_true rfl⟩, w_939⟩
theorem ok_J2_compress_39247 : MOKs MJ2_compress_39247 3 := ⟨⟨w_56, (by unfold cwM; exact w_930), nm_java_lang_StringUTF16, pd_65, Nat.le_of_ble_eq_true rfl⟩, w_929⟩
theorem ok_J2_compress_5af95 : MOKs MJ2_compress_5af95 5 := ⟨⟨w_56, (by unfold cwM; exact w_933), nm_java_lang_StringUTF16, pd_66, Nat.le_of_ble_eq_true rfl⟩, w_932⟩
theorem ok_J2_putCharSB_b72d1 : MOKs MJ2_putCharSB_b72d1 3 := ⟨⟨w_56, (by unfold cwM; exact w_800), nm_java_lang_StringUTF16, pd_61, Nat.le_of_ble_eq_true rfl⟩, w_799⟩
theorem ok_J2_getChars_46870 : MOKs MJ2_getChars_46870 4 := ⟨⟨w_56, (by unfold cwM; exact w_832), nm_java_lang_StringUTF16, pd_67, Nat.le_of_ble_eq_true rfl⟩, w_831⟩
theorem ok_J2_putCharsAt_cd4e5 : MOKs MJ2_putCharsAt_cd4e5 6 := ⟨⟨w_56, (by unfold cwM; exact w_901), nm_java_lang_StringUTF16, pd_68, Nat.le_of_ble_eq_true rfl⟩, w_900⟩
theorem ok_J2_inflate_0e8fd : MOKs MJ2_inflate_0e8fd 5 := ⟨⟨w_56, (by unfold cwM; exact w_774), nm_java_lang_StringUTF16, pd_59, Nat.le_of_ble_eq_true rfl⟩, w_773⟩
theorem ok_J2_getChars_ba4f3 : MOKs MJ2_getChars_ba4f3 3 := ⟨⟨w_56, (by unfold cwM; exact w_844), nm_java_lang_StringUTF16, pd_48, Nat.le_of_ble_eq_true rfl⟩, w_843⟩
theorem ok_J2_checkIndex_2214a : MOKs MJ2_checkIndex_2214a 2 := ⟨⟨w_56, (by unfold cwM; exact w_803), nm_java_lang_StringUTF16, pd_69, Nat.le_of_ble_eq_true rfl⟩, w_802⟩
theorem ok_J2_checkBoundsBeginEnd_d044e : MOKs MJ2_checkBoundsBeginEnd_d044e 3 := ⟨⟨w_56, (by unfold cwM; exact w_835), nm_java_lang_StringUTF16, pd_70, Nat.le_of_ble_eq_true rfl⟩, w_834⟩
theorem ok_J2_checkBoundsOffCount_d044e : MOKs MJ2_checkBoundsOffCount_d044e 3 := ⟨⟨w_56, (by unfold cwM; exact w_777), nm_java_lang_StringUTF16, pd_70, Nat.le_of_ble_eq_true rfl⟩, w_776⟩
theorem ok_J7_copyOf_9075b : MOKs MJ7_copyOf_9075b 2 := ⟨⟨w_58, (by unfold cwM; exact w_743), nm_java_util_Arrays, pd_71, Nat.le_of_ble_eq_true rfl⟩, w_742⟩
theorem ok_J7_checkLength_df160 : MOKs MJ7_checkLength_df160 2 := ⟨⟨w_58, (by unfold cwM; exact w_882), nm_java_util_Arrays, pd_7, Nat.le_of_ble_eq_true rfl⟩, w_881⟩
theorem ok_J7_copyOfRange_39247 : MOKs MJ7_copyOfRange_39247 3 := ⟨⟨w_58, (by unfold cwM; exact w_876), nm_java_util_Arrays, pd_65, Nat.le_of_ble_eq_true rfl⟩, w_875⟩
theorem ok_J7_copyOfRangeByte_39247 : MOKs MJ7_copyOfRangeByte_39247 3 := ⟨⟨w_58, (by unfold cwM; exact w_879), nm_java_util_Arrays, pd_65, Nat.le_of_ble_eq_true rfl⟩, w_878⟩
theorem ok_J8_newLength_cabcc : MOKs MJ8_newLength_cabcc 3 := ⟨⟨w_57, (by unfold cwM; exact w_732), nm_jdk_internal_util_ArraysSupport, pd_14, Nat.le_of_ble_eq_true rfl⟩, w_731⟩
theorem ok_J8_hugeLength_7cf53 : MOKs MJ8_hugeLength_7cf53 2 := ⟨⟨w_57, (by unfold cwM; exact w_739), nm_jdk_internal_util_ArraysSupport, pd_6, Nat.le_of_ble_eq_true rfl⟩, w_738⟩
theorem ok_J3_checkIndex_8e157 : MOKs MJ3_checkIndex_8e157 3 := ⟨⟨w_61, (by unfold cwM; exact w_809), nm_jdk_internal_util_Preconditions, pd_72, Nat.le_of_ble_eq_true rfl⟩, w_808⟩
theorem ok_J3_checkFromToIndex_8c36e : MOKs MJ3_checkFromToIndex_8c36e 4 := ⟨⟨w_61, (by unfold cwM; exact w_841), nm_jdk_internal_util_Preconditions, pd_73, Nat.le_of_ble_eq_true rfl⟩, w_840⟩
theorem ok_J3_checkFromIndexSize_8c36e : MOKs MJ3_checkFromIndexSize_8c36e 4 := ⟨⟨w_61, (by unfold cwM; exact w_788), nm_jdk_internal_util_Preconditions, pd_73, Nat.le_of_ble_eq_true rfl⟩, w_787⟩
theorem ok_L_put : MOKs ML_put 4 := ⟨⟨w_38, (by unfold cwM; exact w_394), nm_OverwalksLaw, pd_74, Nat.le_of_ble_eq_true rfl⟩, w_393⟩
theorem ok_L_putAll : MOKs ML_putAll 7 := ⟨⟨w_38, (by unfold cwM; exact w_459), nm_OverwalksLaw, pd_75, Nat.le_of_ble_eq_true rfl⟩, w_458⟩
theorem ok_L_take : MOKs ML_take 4 := ⟨⟨w_38, (by unfold cwM; exact w_476), nm_OverwalksLaw, pd_74, Nat.le_of_ble_eq_true rfl⟩, w_475⟩
theorem ok_L_clear : MOKs ML_clear 3 := ⟨⟨w_38, (by unfold cwM; exact w_492), nm_OverwalksLaw, pd_76, Nat.le_of_ble_eq_true rfl⟩, w_491⟩
theorem ok_L_pair : MOKs ML_pair 4 := ⟨⟨w_38, (by unfold cwM; exact w_503), nm_OverwalksLaw, pd_74, Nat.le_of_ble_eq_true rfl⟩, w_502⟩
theorem ok_L_pour : MOKs ML_pour 4 := ⟨⟨w_38, (by unfold cwM; exact w_519), nm_OverwalksLaw, pd_74, Nat.le_of_ble_eq_true rfl⟩, w_518⟩
theorem ok_L_change : MOKs ML_change 5 := ⟨⟨w_38, (by unfold cwM; exact w_536), nm_OverwalksLaw, pd_77, Nat.le_of_ble_eq_true rfl⟩, w_535⟩
theorem ok_L_insert : MOKs ML_insert 5 := ⟨⟨w_38, (by unfold cwM; exact w_552), nm_OverwalksLaw, pd_77, Nat.le_of_ble_eq_true rfl⟩, w_551⟩
theorem ok_L_remove : MOKs ML_remove 4 := ⟨⟨w_38, (by unfold cwM; exact w_559), nm_OverwalksLaw, pd_74, Nat.le_of_ble_eq_true rfl⟩, w_558⟩
theorem ok_L_turn : MOKs ML_turn 3 := ⟨⟨w_38, (by unfold cwM; exact w_566), nm_OverwalksLaw, pd_76, Nat.le_of_ble_eq_true rfl⟩, w_565⟩
theorem ok_L_rotate : MOKs ML_rotate 4 := ⟨⟨w_38, (by unfold cwM; exact w_578), nm_OverwalksLaw, pd_74, Nat.le_of_ble_eq_true rfl⟩, w_577⟩
theorem ok_L_swap : MOKs ML_swap 5 := ⟨⟨w_38, (by unfold cwM; exact w_594), nm_OverwalksLaw, pd_77, Nat.le_of_ble_eq_true rfl⟩, w_593⟩
theorem ok_L_fill : MOKs ML_fill 4 := ⟨⟨w_38, (by unfold cwM; exact w_601), nm_OverwalksLaw, pd_74, Nat.le_of_ble_eq_true rfl⟩, w_600⟩
theorem ok_L_replace : MOKs ML_replace 5 := ⟨⟨w_38, (by unfold cwM; exact w_608), nm_OverwalksLaw, pd_77, Nat.le_of_ble_eq_true rfl⟩, w_607⟩
theorem ok_L_copies : MOKs ML_copies 5 := ⟨⟨w_38, (by unfold cwM; exact w_615), nm_OverwalksLaw, pd_77, Nat.le_of_ble_eq_true rfl⟩, w_614⟩
theorem ok_L_walk : MOKs ML_walk 5 := ⟨⟨w_38, (by unfold cwM; exact w_626), nm_OverwalksLaw, pd_77, Nat.le_of_ble_eq_true rfl⟩, w_625⟩
theorem ok_L_next : MOKs ML_next 3 := ⟨⟨w_38, (by unfold cwM; exact w_635), nm_OverwalksLaw, pd_76, Nat.le_of_ble_eq_true rfl⟩, w_634⟩
theorem ok_L_more : MOKs ML_more 3 := ⟨⟨w_38, (by unfold cwM; exact w_646), nm_OverwalksLaw, pd_76, Nat.le_of_ble_eq_true rfl⟩, w_645⟩
theorem ok_L_takeOut : MOKs ML_takeOut 3 := ⟨⟨w_38, (by unfold cwM; exact w_653), nm_OverwalksLaw, pd_76, Nat.le_of_ble_eq_true rfl⟩, w_652⟩
theorem ok_L_rest : MOKs ML_rest 3 := ⟨⟨w_38, (by unfold cwM; exact w_668), nm_OverwalksLaw, pd_76, Nat.le_of_ble_eq_true rfl⟩, w_667⟩
theorem ok_L_keepRest : MOKs ML_keepRest 4 := ⟨⟨w_38, (by unfold cwM; exact w_954), nm_OverwalksLaw, pd_74, Nat.le_of_ble_eq_true rfl⟩, w_953⟩
theorem ok_L_keep : MOKs ML_keep 4 := ⟨⟨w_38, (by unfold cwM; exact w_966), nm_OverwalksLaw, pd_74, Nat.le_of_ble_eq_true rfl⟩, w_965⟩
theorem ok_L_drop : MOKs ML_drop 3 := ⟨⟨w_38, (by unfold cwM; exact w_973), nm_OverwalksLaw, pd_76, Nat.le_of_ble_eq_true rfl⟩, w_972⟩
theorem ok_L_skip : MOKs ML_skip 4 := ⟨⟨w_38, (by unfold cwM; exact w_980), nm_OverwalksLaw, pd_74, Nat.le_of_ble_eq_true rfl⟩, w_979⟩
theorem ok_L_pourRest : MOKs ML_pourRest 4 := ⟨⟨w_38, (by unfold cwM; exact w_987), nm_OverwalksLaw, pd_74, Nat.le_of_ble_eq_true rfl⟩, w_986⟩
theorem ok_L_zip : MOKs ML_zip 4 := ⟨⟨w_38, (by unfold cwM; exact w_994), nm_OverwalksLaw, pd_74, Nat.le_of_ble_eq_true rfl⟩, w_993⟩
theorem ok_L_text : MOKs ML_text 3 := ⟨⟨w_38, (by unfold cwM; exact w_1002), nm_OverwalksLaw, pd_76, Nat.le_of_ble_eq_true rfl⟩, w_1001⟩
theorem ok_L_list : MOKs ML_list 3 := ⟨⟨w_38, (by unfold cwM; exact w_1009), nm_OverwalksLaw, pd_76, Nat.le_of_ble_eq_true rfl⟩, w_1008⟩
theorem ok_L_size : MOKs ML_size 3 := ⟨⟨w_38, (by unfold cwM; exact w_1016), nm_OverwalksLaw, pd_76, Nat.le_of_ble_eq_true rfl⟩, w_1015⟩
theorem ok_L_isEmpty : MOKs ML_isEmpty 3 := ⟨⟨w_38, (by unfold cwM; exact w_1023), nm_OverwalksLaw, pd_76, Nat.le_of_ble_eq_true rfl⟩, w_1022⟩
theorem ok_L_has : MOKs ML_has 4 := ⟨⟨w_38, (by unfold cwM; exact w_1030), nm_OverwalksLaw, pd_74, Nat.le_of_ble_eq_true rfl⟩, w_1029⟩
theorem ok_L_often : MOKs ML_often 4 := ⟨⟨w_38, (by unfold cwM; exact w_1037), nm_OverwalksLaw, pd_74, Nat.le_of_ble_eq_true rfl⟩, w_1036⟩
theorem ok_L_placeOf : MOKs ML_placeOf 5 := ⟨⟨w_38, (by unfold cwM; exact w_1044), nm_OverwalksLaw, pd_78, Nat.le_of_ble_eq_true rfl⟩, w_1043⟩
theorem ok_L_disjoint : MOKs ML_disjoint 4 := ⟨⟨w_38, (by unfold cwM; exact w_1055), nm_OverwalksLaw, pd_74, Nat.le_of_ble_eq_true rfl⟩, w_1054⟩
theorem ok_L_end : MOKs ML_end 4 := ⟨⟨w_38, (by unfold cwM; exact w_1062), nm_OverwalksLaw, pd_79, Nat.le_of_ble_eq_true rfl⟩, w_1061⟩
theorem ok_L_code : MOKs ML_code 3 := ⟨⟨w_38, (by unfold cwM; exact w_1071), nm_OverwalksLaw, pd_76, Nat.le_of_ble_eq_true rfl⟩, w_1070⟩
theorem ok_L_areAlike : MOKs ML_areAlike 4 := ⟨⟨w_38, (by unfold cwM; exact w_1078), nm_OverwalksLaw, pd_74, Nat.le_of_ble_eq_true rfl⟩, w_1077⟩
theorem ok_L_first : MOKs ML_first 4 := ⟨⟨w_38, (by unfold cwM; exact w_1085), nm_OverwalksLaw, pd_79, Nat.le_of_ble_eq_true rfl⟩, w_1084⟩
theorem ok_L_valueOf : MOKs ML_valueOf 3 := ⟨⟨w_38, (by unfold cwM; exact w_1092), nm_OverwalksLaw, pd_76, Nat.le_of_ble_eq_true rfl⟩, w_1091⟩
theorem ok_L_ofWalk : MOKs ML_ofWalk 4 := ⟨⟨w_38, (by unfold cwM; exact w_1099), nm_OverwalksLaw, pd_74, Nat.le_of_ble_eq_true rfl⟩, w_1098⟩
theorem ok_L_house : MOKs ML_house 3 := ⟨⟨w_38, (by unfold cwM; exact w_1103), nm_OverwalksLaw, pd_76, Nat.le_of_ble_eq_true rfl⟩, w_1102⟩
