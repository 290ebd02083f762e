/-! classes of plain names -/
theorem pn_Overwalks : plainName "Overwalks" = true := by decide +kernel
theorem pn_OverwalksLaw : plainName "OverwalksLaw" = true := by decide +kernel
theorem pn_OverwalksLaw_Out : plainName "OverwalksLaw$Out" = true := by decide +kernel
theorem pn_OverwalksModel : plainName "OverwalksModel" = true := by decide +kernel
theorem pn_Overwalks_Shelf : plainName "Overwalks$Shelf" = true := by decide +kernel
theorem pn_Overwalks_Walk : plainName "Overwalks$Walk" = true := by decide +kernel
theorem pn_java_lang_AbstractStringBuilder : plainName "java/lang/AbstractStringBuilder" = true := by decide +kernel
theorem pn_java_lang_Integer : plainName "java/lang/Integer" = true := by decide +kernel
theorem pn_java_lang_String : plainName "java/lang/String" = true := by decide +kernel
theorem pn_java_lang_StringBuilder : plainName "java/lang/StringBuilder" = true := by decide +kernel
theorem pn_java_lang_StringLatin1 : plainName "java/lang/StringLatin1" = true := by decide +kernel
theorem pn_java_util_Arrays : plainName "java/util/Arrays" = true := by decide +kernel
theorem pn_jdk_internal_util_ArraysSupport : plainName "jdk/internal/util/ArraysSupport" = true := by decide +kernel
