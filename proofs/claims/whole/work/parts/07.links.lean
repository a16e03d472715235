/-! WORDS, METHODS, LINKS (own program gen07.py) -/
theorem T0_k1 {w : Cond} (i : Nat) (h : tables_1_1[i]? = some w) (hg : goodWord w = true) : w ∈ T0 := have h : w ∈ tables_1_1 := List.mem_of_getElem? h; List.mem_filter.mpr ⟨List.mem_append_right _ (List.mem_append_left _ h), hg⟩
theorem T0_k2 {w : Cond} (i : Nat) (h : tables_1_2[i]? = some w) (hg : goodWord w = true) : w ∈ T0 := have h : w ∈ tables_1_2 := List.mem_of_getElem? h; List.mem_filter.mpr ⟨List.mem_append_right _ (List.mem_append_right _ (List.mem_append_left _ h)), hg⟩
theorem T0_k3 {w : Cond} (i : Nat) (h : tables_1_3[i]? = some w) (hg : goodWord w = true) : w ∈ T0 := have h : w ∈ tables_1_3 := List.mem_of_getElem? h; List.mem_filter.mpr ⟨List.mem_append_right _ (List.mem_append_right _ (List.mem_append_right _ (List.mem_append_left _ h))), hg⟩
theorem T0_k4 {w : Cond} (i : Nat) (h : tables_1_4[i]? = some w) (hg : goodWord w = true) : w ∈ T0 := have h : w ∈ tables_1_4 := List.mem_of_getElem? h; List.mem_filter.mpr ⟨List.mem_append_right _ (List.mem_append_right _ (List.mem_append_right _ (List.mem_append_right _ (List.mem_append_left _ h)))), hg⟩
theorem T0_k5 {w : Cond} (i : Nat) (h : tables_1_5[i]? = some w) (hg : goodWord w = true) : w ∈ T0 := have h : w ∈ tables_1_5 := List.mem_of_getElem? h; List.mem_filter.mpr ⟨List.mem_append_right _ (List.mem_append_right _ (List.mem_append_right _ (List.mem_append_right _ (List.mem_append_right _ (List.mem_append_left _ h))))), hg⟩
theorem T0_k6 {w : Cond} (i : Nat) (h : tables_1_6[i]? = some w) (hg : goodWord w = true) : w ∈ T0 := have h : w ∈ tables_1_6 := List.mem_of_getElem? h; List.mem_filter.mpr ⟨List.mem_append_right _ (List.mem_append_right _ (List.mem_append_right _ (List.mem_append_right _ (List.mem_append_right _ (List.mem_append_right _ (List.mem_append_left _ h)))))), hg⟩
theorem T0_k7 {w : Cond} (i : Nat) (h : tables_1_7[i]? = some w) (hg : goodWord w = true) : w ∈ T0 := have h : w ∈ tables_1_7 := List.mem_of_getElem? h; List.mem_filter.mpr ⟨List.mem_append_right _ (List.mem_append_right _ (List.mem_append_right _ (List.mem_append_right _ (List.mem_append_right _ (List.mem_append_right _ (List.mem_append_right _ (List.mem_append_left _ h))))))), hg⟩
theorem T0_k8 {w : Cond} (i : Nat) (h : tables_1_8[i]? = some w) (hg : goodWord w = true) : w ∈ T0 := have h : w ∈ tables_1_8 := List.mem_of_getElem? h; List.mem_filter.mpr ⟨List.mem_append_right _ (List.mem_append_right _ (List.mem_append_right _ (List.mem_append_right _ (List.mem_append_right _ (List.mem_append_right _ (List.mem_append_right _ (List.mem_append_right _ (h)))))))), hg⟩
theorem t0 : Cond.initialized "TemperCellarLaw" ∈ T0 := T0_k1 0 rfl rfl
theorem t1 : Cond.initialized "TemperCellar" ∈ T0 := T0_k1 1 rfl rfl
theorem t2 : Cond.initialized "TemperCellar$Told" ∈ T0 := T0_k1 2 rfl rfl
theorem t3 : Cond.initialized "TemperCellar$Laws" ∈ T0 := T0_k1 3 rfl rfl
theorem t4 : Cond.initialized "java/util/Arrays" ∈ T0 := T0_k1 4 rfl rfl
theorem t5 : Cond.initialized "TemperCellar$Tokens" ∈ T0 := T0_k1 5 rfl rfl
theorem t6 : Cond.initialized "TemperCellar$Reader" ∈ T0 := T0_k1 6 rfl rfl
theorem t7 : Cond.initialized "TemperCellar$Cellar" ∈ T0 := T0_k1 7 rfl rfl
theorem t8 : Cond.initialized "TemperCellar$Years" ∈ T0 := T0_k1 8 rfl rfl
theorem t9 : Cond.initialized "TemperCellar$Undos" ∈ T0 := T0_k1 9 rfl rfl
theorem t10 : Cond.initialized "TemperCellar$Seen" ∈ T0 := T0_k1 10 rfl rfl
theorem t11 : Cond.initialized "TemperCellar$Service" ∈ T0 := T0_k1 11 rfl rfl
theorem t12 : Cond.initialized "TemperCellarModel" ∈ T0 := T0_k1 12 rfl rfl
theorem t13 : Cond.initialized "java/lang/Math" ∈ T0 := T0_k1 13 rfl rfl
theorem t14 : Cond.initialized "java/lang/String" ∈ T0 := T0_k1 14 rfl rfl
theorem t15 : Cond.initialized "java/lang/StringLatin1" ∈ T0 := T0_k1 15 rfl rfl
theorem t16 : Cond.initialized "jdk/internal/util/Preconditions" ∈ T0 := T0_k1 16 rfl rfl
theorem t17 : Cond.initialized "java/lang/StringUTF16" ∈ T0 := T0_k1 17 rfl rfl
theorem t18 : Cond.initialized "java/lang/Throwable" ∈ T0 := T0_k1 18 rfl rfl
theorem t19 : Cond.initialized "java/lang/Exception" ∈ T0 := T0_k1 19 rfl rfl
theorem t20 : Cond.initialized "java/lang/RuntimeException" ∈ T0 := T0_k1 20 rfl rfl
theorem t21 : Cond.initialized "java/lang/IndexOutOfBoundsException" ∈ T0 := T0_k1 21 rfl rfl
theorem t22 : Cond.initialized "java/util/NoSuchElementException" ∈ T0 := T0_k1 22 rfl rfl
theorem t23 : Cond.initialized "java/lang/Integer" ∈ T0 := T0_k1 23 rfl rfl
theorem t24 : Cond.initialized "java/lang/System" ∈ T0 := T0_k1 24 rfl rfl
theorem t25 : Cond.classLink "TemperCellarLaw" 8 "TemperCellar" ∈ T0 := T0_k1 25 rfl rfl
theorem t26 : Cond.instantiable "TemperCellar" 15 ∈ T0 := T0_k1 26 rfl rfl
theorem t27 : Cond.methodLink "TemperCellarLaw" 17 ⟨"TemperCellar", "<init>", "()V"⟩ ∈ T0 := T0_k1 27 rfl rfl
theorem t28 : Cond.instanceMethod ⟨"TemperCellar", "<init>", "()V"⟩ ∈ T0 := T0_k1 28 rfl rfl
theorem t29 : Cond.code ⟨"TemperCellar", "<init>", "()V"⟩ prog_1_method_1_code 1 (none : Option FieldType) ∈ T0 := T0_k1 29 rfl rfl
theorem t30 : Cond.methodLink "TemperCellar" 3 ⟨"java/lang/Object", "<init>", "()V"⟩ ∈ T0 := T0_k1 30 rfl rfl
theorem t31 : Cond.instanceMethod ⟨"java/lang/Object", "<init>", "()V"⟩ ∈ T0 := T0_k1 31 rfl rfl
theorem t32 : Cond.code ⟨"java/lang/Object", "<init>", "()V"⟩ object_method_1_code 1 (none : Option FieldType) ∈ T0 := T0_k1 32 rfl rfl
theorem t33 : Cond.classLink "TemperCellar" 15 "TemperCellar$Told" ∈ T0 := T0_k1 33 rfl rfl
theorem t34 : Cond.instantiable "TemperCellar$Told" 18 ∈ T0 := T0_k1 34 rfl rfl
theorem t36 : Cond.instanceMethod ⟨"TemperCellar$Told", "<init>", "()V"⟩ ∈ T0 := T0_k1 36 rfl rfl
theorem t37 : Cond.code ⟨"TemperCellar$Told", "<init>", "()V"⟩ prog_8_method_1_code 1 (none : Option FieldType) ∈ T0 := T0_k1 37 rfl rfl
theorem t38 : Cond.methodLink "TemperCellar$Told" 3 ⟨"java/lang/Object", "<init>", "()V"⟩ ∈ T0 := T0_k1 38 rfl rfl
theorem t39 : Cond.classLink "TemperCellar$Told" 48 "TemperCellar$Laws" ∈ T0 := T0_k1 39 rfl rfl
theorem t40 : Cond.instantiable "TemperCellar$Laws" 6 ∈ T0 := T0_k1 40 rfl rfl
theorem t41 : Cond.methodLink "TemperCellar$Told" 50 ⟨"TemperCellar$Laws", "<init>", "()V"⟩ ∈ T0 := T0_k1 41 rfl rfl
theorem t42 : Cond.instanceMethod ⟨"TemperCellar$Laws", "<init>", "()V"⟩ ∈ T0 := T0_k1 42 rfl rfl
theorem t43 : Cond.code ⟨"TemperCellar$Laws", "<init>", "()V"⟩ prog_3_method_1_code 1 (none : Option FieldType) ∈ T0 := T0_k1 43 rfl rfl
theorem t44 : Cond.methodLink "TemperCellar$Laws" 3 ⟨"java/lang/Object", "<init>", "()V"⟩ ∈ T0 := T0_k1 44 rfl rfl
theorem t45 : Cond.methodLink "TemperCellar$Laws" 24 ⟨"TemperCellar$Laws", "clear", "()V"⟩ ∈ T0 := T0_k1 45 rfl rfl
theorem t46 : Cond.instanceMethod ⟨"TemperCellar$Laws", "clear", "()V"⟩ ∈ T0 := T0_k1 46 rfl rfl
theorem t47 : Cond.selects "TemperCellar$Laws" ⟨"TemperCellar$Laws", "clear", "()V"⟩ ⟨"TemperCellar$Laws", "clear", "()V"⟩ ∈ T0 := T0_k1 47 rfl rfl
theorem t48 : Cond.code ⟨"TemperCellar$Laws", "clear", "()V"⟩ prog_3_method_2_code 1 (none : Option FieldType) ∈ T0 := T0_k1 48 rfl rfl
theorem t49 : Cond.methodLink "TemperCellar$Laws" 27 ⟨"java/util/Arrays", "fill", "([II)V"⟩ ∈ T0 := T0_k1 49 rfl rfl
theorem t50 : Cond.static ⟨"java/util/Arrays", "fill", "([II)V"⟩ ∈ T0 := T0_k1 50 rfl rfl
theorem t51 : Cond.code ⟨"java/util/Arrays", "fill", "([II)V"⟩ prog_28_method_103_code 4 (none : Option FieldType) ∈ T0 := T0_k1 51 rfl rfl
theorem t52 : Cond.fieldLink "TemperCellar$Laws" 9 "TemperCellar$Laws" "from" "[I" ∈ T0 := T0_k1 52 rfl rfl
theorem t53 : Cond.fieldLink "TemperCellar$Years" 175 "TemperCellar$Laws" "from" "[I" ∈ T0 := T0_k1 53 rfl rfl
theorem t54 : Cond.fieldLink "TemperCellar$Reader" 172 "TemperCellar$Laws" "from" "[I" ∈ T0 := T0_k1 54 rfl rfl
theorem t55 : Cond.fieldLink "TemperCellar$Laws" 15 "TemperCellar$Laws" "to" "[I" ∈ T0 := T0_k1 55 rfl rfl
theorem t56 : Cond.fieldLink "TemperCellar$Years" 180 "TemperCellar$Laws" "to" "[I" ∈ T0 := T0_k1 56 rfl rfl
theorem t57 : Cond.fieldLink "TemperCellar$Reader" 182 "TemperCellar$Laws" "to" "[I" ∈ T0 := T0_k1 57 rfl rfl
theorem t58 : Cond.fieldLink "TemperCellar$Laws" 18 "TemperCellar$Laws" "sign" "[I" ∈ T0 := T0_k1 58 rfl rfl
theorem t59 : Cond.fieldLink "TemperCellar$Years" 183 "TemperCellar$Laws" "sign" "[I" ∈ T0 := T0_k1 59 rfl rfl
theorem t60 : Cond.fieldLink "TemperCellar$Laws" 21 "TemperCellar$Laws" "number" "[I" ∈ T0 := T0_k1 60 rfl rfl
theorem t61 : Cond.fieldLink "TemperCellar$Years" 186 "TemperCellar$Laws" "number" "[I" ∈ T0 := T0_k1 61 rfl rfl
theorem t62 : Cond.fieldLink "TemperCellar$Laws" 33 "TemperCellar$Laws" "length" "I" ∈ T0 := T0_k1 62 rfl rfl
theorem t63 : Cond.fieldLink "TemperCellar$Reader" 175 "TemperCellar$Laws" "length" "I" ∈ T0 := T0_k1 63 rfl rfl
theorem t64 : Cond.fieldLink "TemperCellar$Laws" 37 "TemperCellar$Laws" "knots" "I" ∈ T0 := T0_k1 64 rfl rfl
theorem t65 : Cond.fieldLink "TemperCellar$Reader" 200 "TemperCellar$Laws" "knots" "I" ∈ T0 := T0_k1 65 rfl rfl
theorem t66 : Cond.fieldLink "TemperCellar" 392 "TemperCellar$Laws" "knots" "I" ∈ T0 := T0_k1 66 rfl rfl
theorem t80 : Cond.arrayClass FieldType.byte ∈ T0 := T0_k1 80 rfl rfl
theorem t81 : Cond.arrayClass FieldType.int ∈ T0 := T0_k1 81 rfl rfl
theorem t82 : Cond.fieldLink "TemperCellar$Told" 55 "TemperCellar$Told" "people" "I" ∈ T0 := T0_k1 82 rfl rfl
theorem t83 : Cond.fieldLink "TemperCellar$Reader" 84 "TemperCellar$Told" "people" "I" ∈ T0 := T0_k1 83 rfl rfl
theorem t84 : Cond.fieldLink "TemperCellar" 302 "TemperCellar$Told" "people" "I" ∈ T0 := T0_k1 84 rfl rfl
theorem t85 : Cond.fieldLink "TemperCellar$Told" 9 "TemperCellar$Told" "personName" "[I" ∈ T0 := T0_k1 85 rfl rfl
theorem t86 : Cond.fieldLink "TemperCellar$Reader" 90 "TemperCellar$Told" "personName" "[I" ∈ T0 := T0_k1 86 rfl rfl
theorem t87 : Cond.fieldLink "TemperCellar$Told" 15 "TemperCellar$Told" "hot" "[I" ∈ T0 := T0_k1 87 rfl rfl
theorem t88 : Cond.fieldLink "TemperCellar" 170 "TemperCellar$Told" "hot" "[I" ∈ T0 := T0_k1 88 rfl rfl
theorem t89 : Cond.fieldLink "TemperCellar$Reader" 102 "TemperCellar$Told" "hot" "[I" ∈ T0 := T0_k1 89 rfl rfl
theorem t90 : Cond.fieldLink "TemperCellar$Years" 203 "TemperCellar$Told" "hot" "[I" ∈ T0 := T0_k1 90 rfl rfl
theorem t91 : Cond.fieldLink "TemperCellar$Told" 59 "TemperCellar$Told" "bottles" "I" ∈ T0 := T0_k1 91 rfl rfl
theorem t92 : Cond.fieldLink "TemperCellar$Cellar" 61 "TemperCellar$Told" "bottles" "I" ∈ T0 := T0_k1 92 rfl rfl
theorem t93 : Cond.fieldLink "TemperCellar$Service" 46 "TemperCellar$Told" "bottles" "I" ∈ T0 := T0_k1 93 rfl rfl
theorem t94 : Cond.fieldLink "TemperCellar$Years" 51 "TemperCellar$Told" "bottles" "I" ∈ T0 := T0_k1 94 rfl rfl
theorem t95 : Cond.fieldLink "TemperCellar$Reader" 109 "TemperCellar$Told" "bottles" "I" ∈ T0 := T0_k1 95 rfl rfl
theorem t96 : Cond.fieldLink "TemperCellar" 208 "TemperCellar$Told" "bottles" "I" ∈ T0 := T0_k1 96 rfl rfl
theorem t97 : Cond.fieldLink "TemperCellar$Told" 18 "TemperCellar$Told" "bottleName" "[I" ∈ T0 := T0_k1 97 rfl rfl
theorem t98 : Cond.fieldLink "TemperCellar$Reader" 112 "TemperCellar$Told" "bottleName" "[I" ∈ T0 := T0_k1 98 rfl rfl
theorem t99 : Cond.fieldLink "TemperCellar$Told" 21 "TemperCellar$Told" "whose" "[I" ∈ T0 := T0_k1 99 rfl rfl
theorem t100 : Cond.fieldLink "TemperCellar" 141 "TemperCellar$Told" "whose" "[I" ∈ T0 := T0_k1 100 rfl rfl
theorem t101 : Cond.fieldLink "TemperCellar$Reader" 118 "TemperCellar$Told" "whose" "[I" ∈ T0 := T0_k1 101 rfl rfl
theorem t102 : Cond.fieldLink "TemperCellar$Years" 158 "TemperCellar$Told" "whose" "[I" ∈ T0 := T0_k1 102 rfl rfl
theorem t103 : Cond.fieldLink "TemperCellar$Told" 24 "TemperCellar$Told" "atWhom" "[I" ∈ T0 := T0_k1 103 rfl rfl
theorem t104 : Cond.fieldLink "TemperCellar" 144 "TemperCellar$Told" "atWhom" "[I" ∈ T0 := T0_k1 104 rfl rfl
theorem t105 : Cond.fieldLink "TemperCellar$Reader" 124 "TemperCellar$Told" "atWhom" "[I" ∈ T0 := T0_k1 105 rfl rfl
theorem t106 : Cond.fieldLink "TemperCellar$Years" 152 "TemperCellar$Told" "atWhom" "[I" ∈ T0 := T0_k1 106 rfl rfl
theorem t107 : Cond.fieldLink "TemperCellar$Told" 27 "TemperCellar$Told" "bin" "[I" ∈ T0 := T0_k1 107 rfl rfl
theorem t108 : Cond.fieldLink "TemperCellar$Cellar" 64 "TemperCellar$Told" "bin" "[I" ∈ T0 := T0_k1 108 rfl rfl
theorem t109 : Cond.fieldLink "TemperCellar$Reader" 127 "TemperCellar$Told" "bin" "[I" ∈ T0 := T0_k1 109 rfl rfl
theorem t110 : Cond.fieldLink "TemperCellar$Told" 30 "TemperCellar$Told" "force" "[I" ∈ T0 := T0_k1 110 rfl rfl
theorem t111 : Cond.fieldLink "TemperCellar$Cellar" 65 "TemperCellar$Told" "force" "[I" ∈ T0 := T0_k1 111 rfl rfl
theorem t112 : Cond.fieldLink "TemperCellar$Reader" 130 "TemperCellar$Told" "force" "[I" ∈ T0 := T0_k1 112 rfl rfl
theorem t113 : Cond.fieldLink "TemperCellar$Told" 33 "TemperCellar$Told" "cork" "[I" ∈ T0 := T0_k1 113 rfl rfl
theorem t114 : Cond.fieldLink "TemperCellar$Cellar" 66 "TemperCellar$Told" "cork" "[I" ∈ T0 := T0_k1 114 rfl rfl
theorem t115 : Cond.fieldLink "TemperCellar$Reader" 133 "TemperCellar$Told" "cork" "[I" ∈ T0 := T0_k1 115 rfl rfl
theorem t116 : Cond.fieldLink "TemperCellar" 235 "TemperCellar$Told" "cork" "[I" ∈ T0 := T0_k1 116 rfl rfl
theorem t117 : Cond.fieldLink "TemperCellar$Told" 62 "TemperCellar$Told" "needs" "I" ∈ T0 := T0_k1 117 rfl rfl
theorem t118 : Cond.fieldLink "TemperCellar$Service" 37 "TemperCellar$Told" "needs" "I" ∈ T0 := T0_k1 118 rfl rfl
theorem t119 : Cond.fieldLink "TemperCellar$Years" 69 "TemperCellar$Told" "needs" "I" ∈ T0 := T0_k1 119 rfl rfl
theorem t120 : Cond.fieldLink "TemperCellar$Reader" 136 "TemperCellar$Told" "needs" "I" ∈ T0 := T0_k1 120 rfl rfl
theorem t121 : Cond.fieldLink "TemperCellar" 385 "TemperCellar$Told" "needs" "I" ∈ T0 := T0_k1 121 rfl rfl
theorem t122 : Cond.fieldLink "TemperCellar$Told" 36 "TemperCellar$Told" "needOf" "[I" ∈ T0 := T0_k1 122 rfl rfl
theorem t123 : Cond.fieldLink "TemperCellar" 190 "TemperCellar$Told" "needOf" "[I" ∈ T0 := T0_k1 123 rfl rfl
theorem t124 : Cond.fieldLink "TemperCellar$Reader" 139 "TemperCellar$Told" "needOf" "[I" ∈ T0 := T0_k1 124 rfl rfl
theorem t125 : Cond.fieldLink "TemperCellar$Years" 139 "TemperCellar$Told" "needOf" "[I" ∈ T0 := T0_k1 125 rfl rfl
theorem t126 : Cond.fieldLink "TemperCellar$Told" 39 "TemperCellar$Told" "needYear" "[I" ∈ T0 := T0_k1 126 rfl rfl
theorem t127 : Cond.fieldLink "TemperCellar$Years" 72 "TemperCellar$Told" "needYear" "[I" ∈ T0 := T0_k1 127 rfl rfl
theorem t128 : Cond.fieldLink "TemperCellar" 193 "TemperCellar$Told" "needYear" "[I" ∈ T0 := T0_k1 128 rfl rfl
theorem t129 : Cond.fieldLink "TemperCellar$Reader" 142 "TemperCellar$Told" "needYear" "[I" ∈ T0 := T0_k1 129 rfl rfl
theorem t130 : Cond.fieldLink "TemperCellar$Told" 42 "TemperCellar$Told" "needFrom" "[I" ∈ T0 := T0_k1 130 rfl rfl
theorem t131 : Cond.fieldLink "TemperCellar$Service" 59 "TemperCellar$Told" "needFrom" "[I" ∈ T0 := T0_k1 131 rfl rfl
theorem t132 : Cond.fieldLink "TemperCellar" 196 "TemperCellar$Told" "needFrom" "[I" ∈ T0 := T0_k1 132 rfl rfl
theorem t133 : Cond.fieldLink "TemperCellar$Reader" 145 "TemperCellar$Told" "needFrom" "[I" ∈ T0 := T0_k1 133 rfl rfl
theorem t134 : Cond.fieldLink "TemperCellar$Years" 161 "TemperCellar$Told" "needFrom" "[I" ∈ T0 := T0_k1 134 rfl rfl
theorem t135 : Cond.fieldLink "TemperCellar$Told" 45 "TemperCellar$Told" "needTo" "[I" ∈ T0 := T0_k1 135 rfl rfl
theorem t136 : Cond.fieldLink "TemperCellar$Service" 62 "TemperCellar$Told" "needTo" "[I" ∈ T0 := T0_k1 136 rfl rfl
theorem t137 : Cond.fieldLink "TemperCellar" 199 "TemperCellar$Told" "needTo" "[I" ∈ T0 := T0_k1 137 rfl rfl
theorem t138 : Cond.fieldLink "TemperCellar$Reader" 148 "TemperCellar$Told" "needTo" "[I" ∈ T0 := T0_k1 138 rfl rfl
theorem t139 : Cond.fieldLink "TemperCellar$Years" 164 "TemperCellar$Told" "needTo" "[I" ∈ T0 := T0_k1 139 rfl rfl
theorem t140 : Cond.fieldLink "TemperCellar$Told" 65 "TemperCellar$Told" "thunder" "I" ∈ T0 := T0_k1 140 rfl rfl
theorem t141 : Cond.fieldLink "TemperCellar$Years" 81 "TemperCellar$Told" "thunder" "I" ∈ T0 := T0_k1 141 rfl rfl
theorem t142 : Cond.fieldLink "TemperCellar$Reader" 151 "TemperCellar$Told" "thunder" "I" ∈ T0 := T0_k1 142 rfl rfl
theorem t143 : Cond.fieldLink "TemperCellar" 323 "TemperCellar$Told" "thunder" "I" ∈ T0 := T0_k1 143 rfl rfl
theorem t144 : Cond.fieldLink "TemperCellar$Cellar" 43 "TemperCellar$Told" "seed" "I" ∈ T0 := T0_k1 144 rfl rfl
theorem t145 : Cond.fieldLink "TemperCellar$Told" 68 "TemperCellar$Told" "seed" "I" ∈ T0 := T0_k1 145 rfl rfl
theorem t146 : Cond.fieldLink "TemperCellar$Reader" 155 "TemperCellar$Told" "seed" "I" ∈ T0 := T0_k1 146 rfl rfl
theorem t147 : Cond.fieldLink "TemperCellar$Told" 51 "TemperCellar$Told" "laws" "LTemperCellar$Laws;" ∈ T0 := T0_k1 147 rfl rfl
theorem t148 : Cond.fieldLink "TemperCellar$Years" 171 "TemperCellar$Told" "laws" "LTemperCellar$Laws;" ∈ T0 := T0_k1 148 rfl rfl
theorem t149 : Cond.fieldLink "TemperCellar$Reader" 162 "TemperCellar$Told" "laws" "LTemperCellar$Laws;" ∈ T0 := T0_k1 149 rfl rfl
theorem t150 : Cond.fieldLink "TemperCellar" 388 "TemperCellar$Told" "laws" "LTemperCellar$Laws;" ∈ T0 := T0_k1 150 rfl rfl
theorem t188 : Cond.classLink "TemperCellar" 25 "TemperCellar$Tokens" ∈ T0 := T0_k1 188 rfl rfl
theorem t189 : Cond.instantiable "TemperCellar$Tokens" 6 ∈ T0 := T0_k1 189 rfl rfl
theorem t190 : Cond.methodLink "TemperCellar" 27 ⟨"TemperCellar$Tokens", "<init>", "([B)V"⟩ ∈ T0 := T0_k1 190 rfl rfl
theorem t191 : Cond.instanceMethod ⟨"TemperCellar$Tokens", "<init>", "([B)V"⟩ ∈ T0 := T0_k1 191 rfl rfl
theorem t192 : Cond.code ⟨"TemperCellar$Tokens", "<init>", "([B)V"⟩ prog_7_method_1_code 2 (none : Option FieldType) ∈ T0 := T0_k1 192 rfl rfl
theorem t193 : Cond.methodLink "TemperCellar$Tokens" 3 ⟨"java/lang/Object", "<init>", "()V"⟩ ∈ T0 := T0_k1 193 rfl rfl
theorem t194 : Cond.fieldLink "TemperCellar$Tokens" 21 "TemperCellar$Tokens" "tape" "[B" ∈ T0 := T0_k1 194 rfl rfl
theorem t195 : Cond.fieldLink "TemperCellar$Tokens" 9 "TemperCellar$Tokens" "kind" "[I" ∈ T0 := T0_k1 195 rfl rfl
theorem t196 : Cond.fieldLink "TemperCellar$Reader" 48 "TemperCellar$Tokens" "kind" "[I" ∈ T0 := T0_k1 196 rfl rfl
theorem t197 : Cond.fieldLink "TemperCellar$Tokens" 15 "TemperCellar$Tokens" "place" "[I" ∈ T0 := T0_k1 197 rfl rfl
theorem t198 : Cond.fieldLink "TemperCellar$Reader" 56 "TemperCellar$Tokens" "place" "[I" ∈ T0 := T0_k1 198 rfl rfl
theorem t199 : Cond.fieldLink "TemperCellar$Tokens" 18 "TemperCellar$Tokens" "value" "[I" ∈ T0 := T0_k1 199 rfl rfl
theorem t200 : Cond.fieldLink "TemperCellar$Reader" 53 "TemperCellar$Tokens" "value" "[I" ∈ T0 := T0_k1 200 rfl rfl
theorem t201 : Cond.fieldLink "TemperCellar$Tokens" 31 "TemperCellar$Tokens" "length" "I" ∈ T0 := T0_k1 201 rfl rfl
theorem t202 : Cond.fieldLink "TemperCellar$Tokens" 35 "TemperCellar$Tokens" "at" "I" ∈ T0 := T0_k1 202 rfl rfl
theorem t216 : Cond.classLink "TemperCellar" 34 "TemperCellar$Reader" ∈ T0 := T0_k1 216 rfl rfl
theorem t217 : Cond.instantiable "TemperCellar$Reader" 7 ∈ T0 := T0_k1 217 rfl rfl
theorem t218 : Cond.methodLink "TemperCellar" 36 ⟨"TemperCellar$Reader", "<init>", "(LTemperCellar$Tokens;LTemperCellar$Told;)V"⟩ ∈ T0 := T0_k1 218 rfl rfl
theorem t219 : Cond.instanceMethod ⟨"TemperCellar$Reader", "<init>", "(LTemperCellar$Tokens;LTemperCellar$Told;)V"⟩ ∈ T0 := T0_k1 219 rfl rfl
theorem t220 : Cond.code ⟨"TemperCellar$Reader", "<init>", "(LTemperCellar$Tokens;LTemperCellar$Told;)V"⟩ prog_4_method_1_code 3 (none : Option FieldType) ∈ T0 := T0_k1 220 rfl rfl
theorem t221 : Cond.methodLink "TemperCellar$Reader" 3 ⟨"java/lang/Object", "<init>", "()V"⟩ ∈ T0 := T0_k1 221 rfl rfl
theorem t222 : Cond.fieldLink "TemperCellar$Reader" 15 "TemperCellar$Reader" "tokens" "LTemperCellar$Tokens;" ∈ T0 := T0_k1 222 rfl rfl
theorem t223 : Cond.fieldLink "TemperCellar$Reader" 38 "TemperCellar$Reader" "at" "I" ∈ T0 := T0_k1 223 rfl rfl
theorem t224 : Cond.fieldLink "TemperCellar$Reader" 19 "TemperCellar$Reader" "told" "LTemperCellar$Told;" ∈ T0 := T0_k1 224 rfl rfl
theorem t225 : Cond.fieldLink "TemperCellar$Reader" 28 "TemperCellar$Reader" "isThunderTold" "Z" ∈ T0 := T0_k1 225 rfl rfl
theorem t226 : Cond.fieldLink "TemperCellar$Reader" 32 "TemperCellar$Reader" "isSeedTold" "Z" ∈ T0 := T0_k1 226 rfl rfl
theorem t227 : Cond.fieldLink "TemperCellar$Reader" 35 "TemperCellar$Reader" "fault" "I" ∈ T0 := T0_k1 227 rfl rfl
theorem t228 : Cond.fieldLink "TemperCellar" 117 "TemperCellar$Reader" "fault" "I" ∈ T0 := T0_k1 228 rfl rfl
theorem t229 : Cond.fieldLink "TemperCellar$Reader" 9 "TemperCellar$Reader" "faultPlace" "I" ∈ T0 := T0_k1 229 rfl rfl
theorem t230 : Cond.fieldLink "TemperCellar" 120 "TemperCellar$Reader" "faultPlace" "I" ∈ T0 := T0_k1 230 rfl rfl
theorem t246 : Cond.classLink "TemperCellar" 43 "TemperCellar$Cellar" ∈ T0 := T0_k2 6 rfl rfl
theorem t247 : Cond.instantiable "TemperCellar$Cellar" 12 ∈ T0 := T0_k2 7 rfl rfl
theorem t249 : Cond.instanceMethod ⟨"TemperCellar$Cellar", "<init>", "()V"⟩ ∈ T0 := T0_k2 9 rfl rfl
theorem t250 : Cond.code ⟨"TemperCellar$Cellar", "<init>", "()V"⟩ prog_2_method_1_code 1 (none : Option FieldType) ∈ T0 := T0_k2 10 rfl rfl
theorem t251 : Cond.methodLink "TemperCellar$Cellar" 3 ⟨"java/lang/Object", "<init>", "()V"⟩ ∈ T0 := T0_k2 11 rfl rfl
theorem t252 : Cond.fieldLink "TemperCellar$Cellar" 39 "TemperCellar$Cellar" "year" "I" ∈ T0 := T0_k2 12 rfl rfl
theorem t253 : Cond.fieldLink "TemperCellar$Years" 75 "TemperCellar$Cellar" "year" "I" ∈ T0 := T0_k2 13 rfl rfl
theorem t254 : Cond.fieldLink "TemperCellar" 243 "TemperCellar$Cellar" "year" "I" ∈ T0 := T0_k2 14 rfl rfl
theorem t255 : Cond.fieldLink "TemperCellar$Cellar" 48 "TemperCellar$Cellar" "last" "J" ∈ T0 := T0_k2 15 rfl rfl
theorem t256 : Cond.fieldLink "TemperCellar$Years" 84 "TemperCellar$Cellar" "last" "J" ∈ T0 := T0_k2 16 rfl rfl
theorem t257 : Cond.fieldLink "TemperCellar" 361 "TemperCellar$Cellar" "last" "J" ∈ T0 := T0_k2 17 rfl rfl
theorem t258 : Cond.fieldLink "TemperCellar$Cellar" 52 "TemperCellar$Cellar" "thunders" "I" ∈ T0 := T0_k2 18 rfl rfl
theorem t259 : Cond.fieldLink "TemperCellar$Years" 98 "TemperCellar$Cellar" "thunders" "I" ∈ T0 := T0_k2 19 rfl rfl
theorem t260 : Cond.fieldLink "TemperCellar" 400 "TemperCellar$Cellar" "thunders" "I" ∈ T0 := T0_k2 20 rfl rfl
theorem t261 : Cond.fieldLink "TemperCellar$Cellar" 9 "TemperCellar$Cellar" "bin" "[I" ∈ T0 := T0_k2 21 rfl rfl
theorem t262 : Cond.fieldLink "TemperCellar" 147 "TemperCellar$Cellar" "bin" "[I" ∈ T0 := T0_k2 22 rfl rfl
theorem t263 : Cond.fieldLink "TemperCellar$Years" 133 "TemperCellar$Cellar" "bin" "[I" ∈ T0 := T0_k2 23 rfl rfl
theorem t264 : Cond.fieldLink "TemperCellar$Cellar" 15 "TemperCellar$Cellar" "force" "[I" ∈ T0 := T0_k2 24 rfl rfl
theorem t265 : Cond.fieldLink "TemperCellar$Service" 56 "TemperCellar$Cellar" "force" "[I" ∈ T0 := T0_k2 25 rfl rfl
theorem t266 : Cond.fieldLink "TemperCellar$Years" 110 "TemperCellar$Cellar" "force" "[I" ∈ T0 := T0_k2 26 rfl rfl
theorem t267 : Cond.fieldLink "TemperCellar" 150 "TemperCellar$Cellar" "force" "[I" ∈ T0 := T0_k2 27 rfl rfl
theorem t268 : Cond.fieldLink "TemperCellar$Cellar" 18 "TemperCellar$Cellar" "cork" "[I" ∈ T0 := T0_k2 28 rfl rfl
theorem t269 : Cond.fieldLink "TemperCellar$Years" 62 "TemperCellar$Cellar" "cork" "[I" ∈ T0 := T0_k2 29 rfl rfl
theorem t270 : Cond.fieldLink "TemperCellar$Undos" 40 "TemperCellar$Cellar" "cork" "[I" ∈ T0 := T0_k2 30 rfl rfl
theorem t271 : Cond.fieldLink "TemperCellar" 153 "TemperCellar$Cellar" "cork" "[I" ∈ T0 := T0_k2 31 rfl rfl
theorem t272 : Cond.fieldLink "TemperCellar$Cellar" 21 "TemperCellar$Cellar" "state" "[I" ∈ T0 := T0_k2 32 rfl rfl
theorem t273 : Cond.fieldLink "TemperCellar" 156 "TemperCellar$Cellar" "state" "[I" ∈ T0 := T0_k2 33 rfl rfl
theorem t274 : Cond.fieldLink "TemperCellar$Seen" 55 "TemperCellar$Cellar" "state" "[I" ∈ T0 := T0_k2 34 rfl rfl
theorem t275 : Cond.fieldLink "TemperCellar$Cellar" 24 "TemperCellar$Cellar" "opener" "[I" ∈ T0 := T0_k2 35 rfl rfl
theorem t276 : Cond.fieldLink "TemperCellar" 159 "TemperCellar$Cellar" "opener" "[I" ∈ T0 := T0_k2 36 rfl rfl
theorem t277 : Cond.fieldLink "TemperCellar$Years" 149 "TemperCellar$Cellar" "opener" "[I" ∈ T0 := T0_k2 37 rfl rfl
theorem t278 : Cond.fieldLink "TemperCellar$Cellar" 27 "TemperCellar$Cellar" "met" "[I" ∈ T0 := T0_k2 38 rfl rfl
theorem t279 : Cond.fieldLink "TemperCellar$Service" 53 "TemperCellar$Cellar" "met" "[I" ∈ T0 := T0_k2 39 rfl rfl
theorem t280 : Cond.fieldLink "TemperCellar" 202 "TemperCellar$Cellar" "met" "[I" ∈ T0 := T0_k2 40 rfl rfl
theorem t281 : Cond.fieldLink "TemperCellar$Years" 146 "TemperCellar$Cellar" "met" "[I" ∈ T0 := T0_k2 41 rfl rfl
theorem t282 : Cond.fieldLink "TemperCellar$Cellar" 30 "TemperCellar$Cellar" "hates" "[I" ∈ T0 := T0_k2 42 rfl rfl
theorem t283 : Cond.fieldLink "TemperCellar" 184 "TemperCellar$Cellar" "hates" "[I" ∈ T0 := T0_k2 43 rfl rfl
theorem t284 : Cond.fieldLink "TemperCellar$Cellar" 33 "TemperCellar$Cellar" "haters" "[I" ∈ T0 := T0_k2 44 rfl rfl
theorem t285 : Cond.fieldLink "TemperCellar$Years" 200 "TemperCellar$Cellar" "haters" "[I" ∈ T0 := T0_k2 45 rfl rfl
theorem t286 : Cond.fieldLink "TemperCellar$Cellar" 36 "TemperCellar$Cellar" "load" "[I" ∈ T0 := T0_k2 46 rfl rfl
theorem t287 : Cond.fieldLink "TemperCellar$Years" 206 "TemperCellar$Cellar" "load" "[I" ∈ T0 := T0_k2 47 rfl rfl
theorem t313 : Cond.classLink "TemperCellar" 56 "TemperCellar$Years" ∈ T0 := T0_k2 73 rfl rfl
theorem t314 : Cond.instantiable "TemperCellar$Years" 7 ∈ T0 := T0_k2 74 rfl rfl
theorem t315 : Cond.methodLink "TemperCellar" 58 ⟨"TemperCellar$Years", "<init>", "(LTemperCellar$Told;LTemperCellar$Cellar;)V"⟩ ∈ T0 := T0_k2 75 rfl rfl
theorem t316 : Cond.instanceMethod ⟨"TemperCellar$Years", "<init>", "(LTemperCellar$Told;LTemperCellar$Cellar;)V"⟩ ∈ T0 := T0_k2 76 rfl rfl
theorem t317 : Cond.code ⟨"TemperCellar$Years", "<init>", "(LTemperCellar$Told;LTemperCellar$Cellar;)V"⟩ prog_10_method_1_code 3 (none : Option FieldType) ∈ T0 := T0_k2 77 rfl rfl
theorem t318 : Cond.methodLink "TemperCellar$Years" 3 ⟨"java/lang/Object", "<init>", "()V"⟩ ∈ T0 := T0_k2 78 rfl rfl
theorem t319 : Cond.fieldLink "TemperCellar$Years" 19 "TemperCellar$Years" "told" "LTemperCellar$Told;" ∈ T0 := T0_k2 79 rfl rfl
theorem t320 : Cond.fieldLink "TemperCellar$Years" 23 "TemperCellar$Years" "cellar" "LTemperCellar$Cellar;" ∈ T0 := T0_k2 80 rfl rfl
theorem t321 : Cond.fieldLink "TemperCellar$Years" 27 "TemperCellar$Years" "thunderBy" "I" ∈ T0 := T0_k2 81 rfl rfl
theorem t322 : Cond.fieldLink "TemperCellar$Years" 31 "TemperCellar$Years" "setsOff" "Z" ∈ T0 := T0_k2 82 rfl rfl
theorem t323 : Cond.fieldLink "TemperCellar" 371 "TemperCellar$Years" "setsOff" "Z" ∈ T0 := T0_k2 83 rfl rfl
theorem t324 : Cond.fieldLink "TemperCellar$Years" 35 "TemperCellar$Years" "ages" "Z" ∈ T0 := T0_k2 84 rfl rfl
theorem t325 : Cond.fieldLink "TemperCellar" 374 "TemperCellar$Years" "ages" "Z" ∈ T0 := T0_k2 85 rfl rfl
theorem t326 : Cond.fieldLink "TemperCellar$Years" 9 "TemperCellar$Years" "queue" "[I" ∈ T0 := T0_k2 86 rfl rfl
theorem t327 : Cond.fieldLink "TemperCellar$Years" 15 "TemperCellar$Years" "stack" "[J" ∈ T0 := T0_k2 87 rfl rfl
theorem t343 : Cond.arrayClass FieldType.long ∈ T0 := T0_k2 103 rfl rfl
theorem t344 : Cond.classLink "TemperCellar" 65 "TemperCellar$Undos" ∈ T0 := T0_k2 104 rfl rfl
theorem t345 : Cond.instantiable "TemperCellar$Undos" 4 ∈ T0 := T0_k2 105 rfl rfl
theorem t347 : Cond.instanceMethod ⟨"TemperCellar$Undos", "<init>", "()V"⟩ ∈ T0 := T0_k2 107 rfl rfl
theorem t348 : Cond.code ⟨"TemperCellar$Undos", "<init>", "()V"⟩ prog_9_method_1_code 1 (none : Option FieldType) ∈ T0 := T0_k2 108 rfl rfl
theorem t349 : Cond.methodLink "TemperCellar$Undos" 3 ⟨"java/lang/Object", "<init>", "()V"⟩ ∈ T0 := T0_k2 109 rfl rfl
theorem t350 : Cond.fieldLink "TemperCellar$Undos" 21 "TemperCellar$Undos" "count" "I" ∈ T0 := T0_k2 110 rfl rfl
theorem t351 : Cond.fieldLink "TemperCellar" 377 "TemperCellar$Undos" "count" "I" ∈ T0 := T0_k2 111 rfl rfl
theorem t352 : Cond.fieldLink "TemperCellar$Undos" 9 "TemperCellar$Undos" "deed" "[I" ∈ T0 := T0_k2 112 rfl rfl
theorem t353 : Cond.fieldLink "TemperCellar$Undos" 15 "TemperCellar$Undos" "bottle" "[I" ∈ T0 := T0_k2 113 rfl rfl
theorem t354 : Cond.fieldLink "TemperCellar$Undos" 18 "TemperCellar$Undos" "before" "[I" ∈ T0 := T0_k2 114 rfl rfl
theorem t364 : Cond.classLink "TemperCellar" 72 "TemperCellar$Seen" ∈ T0 := T0_k2 124 rfl rfl
theorem t365 : Cond.instantiable "TemperCellar$Seen" 8 ∈ T0 := T0_k2 125 rfl rfl
theorem t367 : Cond.instanceMethod ⟨"TemperCellar$Seen", "<init>", "()V"⟩ ∈ T0 := T0_k2 127 rfl rfl
theorem t368 : Cond.code ⟨"TemperCellar$Seen", "<init>", "()V"⟩ prog_5_method_1_code 1 (none : Option FieldType) ∈ T0 := T0_k2 128 rfl rfl
theorem t369 : Cond.methodLink "TemperCellar$Seen" 3 ⟨"java/lang/Object", "<init>", "()V"⟩ ∈ T0 := T0_k2 129 rfl rfl
theorem t370 : Cond.fieldLink "TemperCellar$Seen" 35 "TemperCellar$Seen" "count" "I" ∈ T0 := T0_k2 130 rfl rfl
theorem t371 : Cond.fieldLink "TemperCellar" 339 "TemperCellar$Seen" "count" "I" ∈ T0 := T0_k2 131 rfl rfl
theorem t372 : Cond.fieldLink "TemperCellar$Seen" 9 "TemperCellar$Seen" "knownBy" "I" ∈ T0 := T0_k2 132 rfl rfl
theorem t373 : Cond.fieldLink "TemperCellar" 345 "TemperCellar$Seen" "knownBy" "I" ∈ T0 := T0_k2 133 rfl rfl
theorem t374 : Cond.fieldLink "TemperCellar$Seen" 15 "TemperCellar$Seen" "years" "[I" ∈ T0 := T0_k2 134 rfl rfl
theorem t375 : Cond.fieldLink "TemperCellar$Seen" 19 "TemperCellar$Seen" "bottle" "[I" ∈ T0 := T0_k2 135 rfl rfl
theorem t376 : Cond.fieldLink "TemperCellar$Seen" 22 "TemperCellar$Seen" "isOff" "[Z" ∈ T0 := T0_k2 136 rfl rfl
theorem t377 : Cond.fieldLink "TemperCellar$Seen" 26 "TemperCellar$Seen" "strikes" "[I" ∈ T0 := T0_k2 137 rfl rfl
theorem t378 : Cond.fieldLink "TemperCellar$Seen" 29 "TemperCellar$Seen" "isStruck" "[Z" ∈ T0 := T0_k2 138 rfl rfl
theorem t379 : Cond.fieldLink "TemperCellar$Seen" 32 "TemperCellar$Seen" "isKnown" "[Z" ∈ T0 := T0_k2 139 rfl rfl
theorem t397 : Cond.arrayClass FieldType.boolean ∈ T0 := T0_k2 157 rfl rfl
theorem t398 : Cond.classLink "TemperCellar" 79 "TemperCellar$Service" ∈ T0 := T0_k2 158 rfl rfl
theorem t399 : Cond.instantiable "TemperCellar$Service" 4 ∈ T0 := T0_k2 159 rfl rfl
theorem t400 : Cond.methodLink "TemperCellar" 81 ⟨"TemperCellar$Service", "<init>", "(LTemperCellar$Told;LTemperCellar$Cellar;)V"⟩ ∈ T0 := T0_k2 160 rfl rfl
theorem t401 : Cond.instanceMethod ⟨"TemperCellar$Service", "<init>", "(LTemperCellar$Told;LTemperCellar$Cellar;)V"⟩ ∈ T0 := T0_k2 161 rfl rfl
theorem t402 : Cond.code ⟨"TemperCellar$Service", "<init>", "(LTemperCellar$Told;LTemperCellar$Cellar;)V"⟩ prog_6_method_1_code 3 (none : Option FieldType) ∈ T0 := T0_k2 162 rfl rfl
theorem t403 : Cond.methodLink "TemperCellar$Service" 3 ⟨"java/lang/Object", "<init>", "()V"⟩ ∈ T0 := T0_k2 163 rfl rfl
theorem t404 : Cond.fieldLink "TemperCellar$Service" 15 "TemperCellar$Service" "told" "LTemperCellar$Told;" ∈ T0 := T0_k2 164 rfl rfl
theorem t405 : Cond.fieldLink "TemperCellar$Service" 19 "TemperCellar$Service" "cellar" "LTemperCellar$Cellar;" ∈ T0 := T0_k2 165 rfl rfl
theorem t406 : Cond.fieldLink "TemperCellar$Service" 33 "TemperCellar$Service" "most" "I" ∈ T0 := T0_k2 166 rfl rfl
theorem t407 : Cond.fieldLink "TemperCellar" 291 "TemperCellar$Service" "most" "I" ∈ T0 := T0_k2 167 rfl rfl
theorem t408 : Cond.fieldLink "TemperCellar$Service" 9 "TemperCellar$Service" "bottleOf" "[I" ∈ T0 := T0_k2 168 rfl rfl
theorem t409 : Cond.fieldLink "TemperCellar" 288 "TemperCellar$Service" "bottleOf" "[I" ∈ T0 := T0_k2 169 rfl rfl
theorem t419 : Cond.methodLink "TemperCellar" 90 ⟨"TemperCellar$Cellar", "layDown", "(LTemperCellar$Told;)V"⟩ ∈ T0 := T0_k2 179 rfl rfl
theorem t420 : Cond.instanceMethod ⟨"TemperCellar$Cellar", "layDown", "(LTemperCellar$Told;)V"⟩ ∈ T0 := T0_k2 180 rfl rfl
theorem t421 : Cond.selects "TemperCellar$Cellar" ⟨"TemperCellar$Cellar", "layDown", "(LTemperCellar$Told;)V"⟩ ⟨"TemperCellar$Cellar", "layDown", "(LTemperCellar$Told;)V"⟩ ∈ T0 := T0_k2 181 rfl rfl
theorem t422 : Cond.code ⟨"TemperCellar$Cellar", "layDown", "(LTemperCellar$Told;)V"⟩ prog_2_method_2_code 3 (none : Option FieldType) ∈ T0 := T0_k2 182 rfl rfl
theorem t423 : Cond.methodLink "TemperCellar$Cellar" 55 ⟨"java/util/Arrays", "fill", "([II)V"⟩ ∈ T0 := T0_k2 183 rfl rfl
theorem t424 : Cond.methodLink "TemperCellar$Cellar" 67 ⟨"TemperCellar$Cellar", "lie", "(I)V"⟩ ∈ T0 := T0_k2 184 rfl rfl
theorem t425 : Cond.instanceMethod ⟨"TemperCellar$Cellar", "lie", "(I)V"⟩ ∈ T0 := T0_k2 185 rfl rfl
theorem t426 : Cond.selects "TemperCellar$Cellar" ⟨"TemperCellar$Cellar", "lie", "(I)V"⟩ ⟨"TemperCellar$Cellar", "lie", "(I)V"⟩ ∈ T0 := T0_k2 186 rfl rfl
theorem t427 : Cond.code ⟨"TemperCellar$Cellar", "lie", "(I)V"⟩ prog_2_method_5_code 2 (none : Option FieldType) ∈ T0 := T0_k2 187 rfl rfl
theorem t428 : Cond.fieldLink "TemperCellar" 11 "TemperCellar" "tape" "[B" ∈ T0 := T0_k2 188 rfl rfl
theorem t429 : Cond.fieldLink "TemperCellar" 94 "TemperCellar" "tapeLength" "I" ∈ T0 := T0_k2 189 rfl rfl
theorem t430 : Cond.fieldLink "TemperCellar" 18 "TemperCellar" "told" "LTemperCellar$Told;" ∈ T0 := T0_k2 190 rfl rfl
theorem t431 : Cond.fieldLink "TemperCellar" 22 "TemperCellar" "spare" "LTemperCellar$Told;" ∈ T0 := T0_k2 191 rfl rfl
theorem t432 : Cond.fieldLink "TemperCellar" 30 "TemperCellar" "tokens" "LTemperCellar$Tokens;" ∈ T0 := T0_k2 192 rfl rfl
theorem t433 : Cond.fieldLink "TemperCellar" 39 "TemperCellar" "reader" "LTemperCellar$Reader;" ∈ T0 := T0_k2 193 rfl rfl
theorem t434 : Cond.fieldLink "TemperCellar" 46 "TemperCellar" "now" "LTemperCellar$Cellar;" ∈ T0 := T0_k2 194 rfl rfl
theorem t435 : Cond.fieldLink "TemperCellar" 50 "TemperCellar" "image" "LTemperCellar$Cellar;" ∈ T0 := T0_k2 195 rfl rfl
theorem t436 : Cond.fieldLink "TemperCellar" 113 "TemperCellar" "hasImage" "Z" ∈ T0 := T0_k2 196 rfl rfl
theorem t437 : Cond.fieldLink "TemperCellar" 53 "TemperCellar" "trial" "LTemperCellar$Cellar;" ∈ T0 := T0_k2 197 rfl rfl
theorem t438 : Cond.fieldLink "TemperCellar" 61 "TemperCellar" "years" "LTemperCellar$Years;" ∈ T0 := T0_k2 198 rfl rfl
theorem t439 : Cond.fieldLink "TemperCellar" 68 "TemperCellar" "undos" "LTemperCellar$Undos;" ∈ T0 := T0_k2 199 rfl rfl
theorem t440 : Cond.fieldLink "TemperCellar" 75 "TemperCellar" "seen" "LTemperCellar$Seen;" ∈ T0 := T0_k2 200 rfl rfl
theorem t441 : Cond.fieldLink "TemperCellar" 82 "TemperCellar" "service" "LTemperCellar$Service;" ∈ T0 := T0_k2 201 rfl rfl
theorem t442 : Cond.fieldLink "TemperCellar" 86 "TemperCellar" "racked" "[I" ∈ T0 := T0_k2 202 rfl rfl
theorem t474 : Cond.methodLink "TemperCellarLaw" 21 ⟨"TemperCellar", "feed", "(IIIII)I"⟩ ∈ T0 := T0_k2 234 rfl rfl
theorem t475 : Cond.instanceMethod ⟨"TemperCellar", "feed", "(IIIII)I"⟩ ∈ T0 := T0_k2 235 rfl rfl
theorem t476 : Cond.selects "TemperCellar" ⟨"TemperCellar", "feed", "(IIIII)I"⟩ ⟨"TemperCellar", "feed", "(IIIII)I"⟩ ∈ T0 := T0_k2 236 rfl rfl
theorem t477 : Cond.code ⟨"TemperCellar", "feed", "(IIIII)I"⟩ prog_1_method_2_code 6 (some FieldType.int) ∈ T0 := T0_k2 237 rfl rfl
theorem t478 : Cond.methodLink "TemperCellar" 98 ⟨"TemperCellar", "putBytes", "(I)V"⟩ ∈ T0 := T0_k2 238 rfl rfl
theorem t480 : Cond.instanceMethod ⟨"TemperCellar", "putBytes", "(I)V"⟩ ∈ T0 := T0_k3 0 rfl rfl
theorem t481 : Cond.code ⟨"TemperCellar", "putBytes", "(I)V"⟩ prog_1_method_3_code 3 (none : Option FieldType) ∈ T0 := T0_k3 1 rfl rfl
theorem t482 : Cond.methodLink "TemperCellarLaw" 26 ⟨"TemperCellar", "text", "(I)I"⟩ ∈ T0 := T0_k3 2 rfl rfl
theorem t483 : Cond.instanceMethod ⟨"TemperCellar", "text", "(I)I"⟩ ∈ T0 := T0_k3 3 rfl rfl
theorem t484 : Cond.selects "TemperCellar" ⟨"TemperCellar", "text", "(I)I"⟩ ⟨"TemperCellar", "text", "(I)I"⟩ ∈ T0 := T0_k3 4 rfl rfl
theorem t485 : Cond.code ⟨"TemperCellar", "text", "(I)I"⟩ prog_1_method_4_code 4 (some FieldType.int) ∈ T0 := T0_k3 5 rfl rfl
theorem t486 : Cond.methodLink "TemperCellar" 102 ⟨"TemperCellar$Tokens", "readAll", "(I)V"⟩ ∈ T0 := T0_k3 6 rfl rfl
theorem t487 : Cond.instanceMethod ⟨"TemperCellar$Tokens", "readAll", "(I)V"⟩ ∈ T0 := T0_k3 7 rfl rfl
theorem t488 : Cond.selects "TemperCellar$Tokens" ⟨"TemperCellar$Tokens", "readAll", "(I)V"⟩ ⟨"TemperCellar$Tokens", "readAll", "(I)V"⟩ ∈ T0 := T0_k3 8 rfl rfl
theorem t489 : Cond.code ⟨"TemperCellar$Tokens", "readAll", "(I)V"⟩ prog_7_method_2_code 3 (none : Option FieldType) ∈ T0 := T0_k3 9 rfl rfl
theorem t490 : Cond.methodLink "TemperCellar$Tokens" 25 ⟨"java/lang/Math", "min", "(II)I"⟩ ∈ T0 := T0_k3 10 rfl rfl
theorem t491 : Cond.static ⟨"java/lang/Math", "min", "(II)I"⟩ ∈ T0 := T0_k3 11 rfl rfl
theorem t492 : Cond.code ⟨"java/lang/Math", "min", "(II)I"⟩ prog_19_method_69_code 2 (some FieldType.int) ∈ T0 := T0_k3 12 rfl rfl
theorem t493 : Cond.methodLink "TemperCellar$Tokens" 38 ⟨"TemperCellar$Tokens", "readOne", "(I)V"⟩ ∈ T0 := T0_k3 13 rfl rfl
theorem t495 : Cond.instanceMethod ⟨"TemperCellar$Tokens", "readOne", "(I)V"⟩ ∈ T0 := T0_k3 15 rfl rfl
theorem t496 : Cond.code ⟨"TemperCellar$Tokens", "readOne", "(I)V"⟩ prog_7_method_3_code 3 (none : Option FieldType) ∈ T0 := T0_k3 16 rfl rfl
theorem t497 : Cond.methodLink "TemperCellar$Tokens" 42 ⟨"TemperCellar$Tokens", "isDigit", "(I)Z"⟩ ∈ T0 := T0_k3 17 rfl rfl
theorem t498 : Cond.static ⟨"TemperCellar$Tokens", "isDigit", "(I)Z"⟩ ∈ T0 := T0_k3 18 rfl rfl
theorem t499 : Cond.code ⟨"TemperCellar$Tokens", "isDigit", "(I)Z"⟩ prog_7_method_10_code 1 (some FieldType.boolean) ∈ T0 := T0_k3 19 rfl rfl
theorem t500 : Cond.methodLink "TemperCellar$Tokens" 46 ⟨"TemperCellar$Tokens", "readNumber", "(I)V"⟩ ∈ T0 := T0_k3 20 rfl rfl
theorem t502 : Cond.instanceMethod ⟨"TemperCellar$Tokens", "readNumber", "(I)V"⟩ ∈ T0 := T0_k3 22 rfl rfl
theorem t503 : Cond.code ⟨"TemperCellar$Tokens", "readNumber", "(I)V"⟩ prog_7_method_4_code 3 (none : Option FieldType) ∈ T0 := T0_k3 23 rfl rfl
theorem t504 : Cond.constant "TemperCellar$Tokens" 61 (1000000 : Int32) ∈ T0 := T0_k3 24 rfl rfl
theorem t505 : Cond.methodLink "TemperCellar$Tokens" 49 ⟨"TemperCellar$Tokens", "isLetter", "(I)Z"⟩ ∈ T0 := T0_k3 25 rfl rfl
theorem t506 : Cond.static ⟨"TemperCellar$Tokens", "isLetter", "(I)Z"⟩ ∈ T0 := T0_k3 26 rfl rfl
theorem t507 : Cond.code ⟨"TemperCellar$Tokens", "isLetter", "(I)Z"⟩ prog_7_method_11_code 1 (some FieldType.boolean) ∈ T0 := T0_k3 27 rfl rfl
theorem t508 : Cond.methodLink "TemperCellar$Tokens" 52 ⟨"TemperCellar$Tokens", "readWord", "(I)V"⟩ ∈ T0 := T0_k3 28 rfl rfl
theorem t510 : Cond.instanceMethod ⟨"TemperCellar$Tokens", "readWord", "(I)V"⟩ ∈ T0 := T0_k3 30 rfl rfl
theorem t511 : Cond.code ⟨"TemperCellar$Tokens", "readWord", "(I)V"⟩ prog_7_method_5_code 5 (none : Option FieldType) ∈ T0 := T0_k3 31 rfl rfl
theorem t512 : Cond.methodLink "TemperCellar$Tokens" 62 ⟨"TemperCellar$Tokens", "wordFrom", "(II)I"⟩ ∈ T0 := T0_k3 32 rfl rfl
theorem t514 : Cond.instanceMethod ⟨"TemperCellar$Tokens", "wordFrom", "(II)I"⟩ ∈ T0 := T0_k3 34 rfl rfl
theorem t515 : Cond.code ⟨"TemperCellar$Tokens", "wordFrom", "(II)I"⟩ prog_7_method_6_code 6 (some FieldType.int) ∈ T0 := T0_k3 35 rfl rfl
theorem t517 : Cond.methodLink "TemperCellar$Tokens" 67 ⟨"java/lang/String", "length", "()I"⟩ ∈ T0 := T0_k3 37 rfl rfl
theorem t518 : Cond.instanceMethod ⟨"java/lang/String", "length", "()I"⟩ ∈ T0 := T0_k3 38 rfl rfl
theorem t519 : Cond.selects "java/lang/String" ⟨"java/lang/String", "length", "()I"⟩ ⟨"java/lang/String", "length", "()I"⟩ ∈ T0 := T0_k3 39 rfl rfl
theorem t520 : Cond.code ⟨"java/lang/String", "length", "()I"⟩ prog_21_method_54_code 1 (some FieldType.int) ∈ T0 := T0_k3 40 rfl rfl
theorem t521 : Cond.methodLink "java/lang/String" 335 ⟨"java/lang/String", "coder", "()B"⟩ ∈ T0 := T0_k3 41 rfl rfl
theorem t522 : Cond.instanceMethod ⟨"java/lang/String", "coder", "()B"⟩ ∈ T0 := T0_k3 42 rfl rfl
theorem t523 : Cond.selects "java/lang/String" ⟨"java/lang/String", "coder", "()B"⟩ ⟨"java/lang/String", "coder", "()B"⟩ ∈ T0 := T0_k3 43 rfl rfl
theorem t524 : Cond.code ⟨"java/lang/String", "coder", "()B"⟩ prog_21_method_152_code 1 (some FieldType.byte) ∈ T0 := T0_k3 44 rfl rfl
theorem t525 : Cond.fieldLink "java/lang/String" 38 "java/lang/String" "COMPACT_STRINGS" "Z" ∈ T0 := T0_k3 45 rfl rfl
theorem t527 : Cond.methodLink "TemperCellar$Tokens" 72 ⟨"java/lang/String", "charAt", "(I)C"⟩ ∈ T0 := T0_k3 47 rfl rfl
theorem t528 : Cond.instanceMethod ⟨"java/lang/String", "charAt", "(I)C"⟩ ∈ T0 := T0_k3 48 rfl rfl
theorem t529 : Cond.selects "java/lang/String" ⟨"java/lang/String", "charAt", "(I)C"⟩ ⟨"java/lang/String", "charAt", "(I)C"⟩ ∈ T0 := T0_k3 49 rfl rfl
theorem t530 : Cond.code ⟨"java/lang/String", "charAt", "(I)C"⟩ prog_21_method_56_code 2 (some FieldType.char) ∈ T0 := T0_k3 50 rfl rfl
theorem t531 : Cond.methodLink "java/lang/String" 492 ⟨"java/lang/String", "isLatin1", "()Z"⟩ ∈ T0 := T0_k3 51 rfl rfl
theorem t532 : Cond.instanceMethod ⟨"java/lang/String", "isLatin1", "()Z"⟩ ∈ T0 := T0_k3 52 rfl rfl
theorem t533 : Cond.selects "java/lang/String" ⟨"java/lang/String", "isLatin1", "()Z"⟩ ⟨"java/lang/String", "isLatin1", "()Z"⟩ ∈ T0 := T0_k3 53 rfl rfl
theorem t534 : Cond.code ⟨"java/lang/String", "isLatin1", "()Z"⟩ prog_21_method_154_code 1 (some FieldType.boolean) ∈ T0 := T0_k3 54 rfl rfl
theorem t535 : Cond.methodLink "java/lang/String" 495 ⟨"java/lang/StringLatin1", "charAt", "([BI)C"⟩ ∈ T0 := T0_k3 55 rfl rfl
theorem t536 : Cond.static ⟨"java/lang/StringLatin1", "charAt", "([BI)C"⟩ ∈ T0 := T0_k3 56 rfl rfl
theorem t537 : Cond.code ⟨"java/lang/StringLatin1", "charAt", "([BI)C"⟩ prog_22_method_2_code 2 (some FieldType.char) ∈ T0 := T0_k3 57 rfl rfl
theorem t538 : Cond.methodLink "java/lang/StringLatin1" 9 ⟨"java/lang/String", "checkIndex", "(II)V"⟩ ∈ T0 := T0_k3 58 rfl rfl
theorem t539 : Cond.static ⟨"java/lang/String", "checkIndex", "(II)V"⟩ ∈ T0 := T0_k3 59 rfl rfl
theorem t540 : Cond.code ⟨"java/lang/String", "checkIndex", "(II)V"⟩ prog_21_method_155_code 2 (none : Option FieldType) ∈ T0 := T0_k3 60 rfl rfl
theorem t541 : Cond.fieldLink "java/lang/String" 1053 "jdk/internal/util/Preconditions" "SIOOBE_FORMATTER" "Ljava/util/function/BiFunction;" ∈ T0 := T0_k3 61 rfl rfl
theorem t543 : Cond.methodLink "java/lang/String" 1059 ⟨"jdk/internal/util/Preconditions", "checkIndex", "(IILjava/util/function/BiFunction;)I"⟩ ∈ T0 := T0_k3 63 rfl rfl
theorem t544 : Cond.static ⟨"jdk/internal/util/Preconditions", "checkIndex", "(IILjava/util/function/BiFunction;)I"⟩ ∈ T0 := T0_k3 64 rfl rfl
theorem t545 : Cond.code ⟨"jdk/internal/util/Preconditions", "checkIndex", "(IILjava/util/function/BiFunction;)I"⟩ prog_30_method_11_code 3 (some FieldType.int) ∈ T0 := T0_k3 65 rfl rfl
theorem t546 : Cond.methodLink "java/lang/String" 498 ⟨"java/lang/StringUTF16", "charAt", "([BI)C"⟩ ∈ T0 := T0_k3 66 rfl rfl
theorem t547 : Cond.static ⟨"java/lang/StringUTF16", "charAt", "([BI)C"⟩ ∈ T0 := T0_k3 67 rfl rfl
theorem t548 : Cond.code ⟨"java/lang/StringUTF16", "charAt", "([BI)C"⟩ prog_23_method_83_code 2 (some FieldType.char) ∈ T0 := T0_k3 68 rfl rfl
theorem t549 : Cond.methodLink "java/lang/StringUTF16" 67 ⟨"java/lang/StringUTF16", "checkIndex", "(I[B)V"⟩ ∈ T0 := T0_k3 69 rfl rfl
theorem t550 : Cond.static ⟨"java/lang/StringUTF16", "checkIndex", "(I[B)V"⟩ ∈ T0 := T0_k3 70 rfl rfl
theorem t551 : Cond.code ⟨"java/lang/StringUTF16", "checkIndex", "(I[B)V"⟩ prog_23_method_91_code 2 (none : Option FieldType) ∈ T0 := T0_k3 71 rfl rfl
theorem t552 : Cond.methodLink "java/lang/StringUTF16" 48 ⟨"java/lang/StringUTF16", "length", "([B)I"⟩ ∈ T0 := T0_k3 72 rfl rfl
theorem t553 : Cond.static ⟨"java/lang/StringUTF16", "length", "([B)I"⟩ ∈ T0 := T0_k3 73 rfl rfl
theorem t554 : Cond.code ⟨"java/lang/StringUTF16", "length", "([B)I"⟩ prog_23_method_6_code 1 (some FieldType.int) ∈ T0 := T0_k3 74 rfl rfl
theorem t555 : Cond.methodLink "java/lang/StringUTF16" 414 ⟨"java/lang/String", "checkIndex", "(II)V"⟩ ∈ T0 := T0_k3 75 rfl rfl
theorem t556 : Cond.methodLink "java/lang/StringUTF16" 71 ⟨"java/lang/StringUTF16", "getChar", "([BI)C"⟩ ∈ T0 := T0_k3 76 rfl rfl
theorem t557 : Cond.static ⟨"java/lang/StringUTF16", "getChar", "([BI)C"⟩ ∈ T0 := T0_k3 77 rfl rfl
theorem t558 : Cond.code ⟨"java/lang/StringUTF16", "getChar", "([BI)C"⟩ prog_23_method_5_code 2 (some FieldType.char) ∈ T0 := T0_k3 78 rfl rfl
theorem t559 : Cond.fieldLink "java/lang/StringUTF16" 44 "java/lang/StringUTF16" "$assertionsDisabled" "Z" ∈ T0 := T0_k3 79 rfl rfl
theorem t561 : Cond.fieldLink "java/lang/StringUTF16" 59 "java/lang/StringUTF16" "HI_BYTE_SHIFT" "I" ∈ T0 := T0_k3 81 rfl rfl
theorem t563 : Cond.fieldLink "java/lang/StringUTF16" 63 "java/lang/StringUTF16" "LO_BYTE_SHIFT" "I" ∈ T0 := T0_k3 83 rfl rfl
theorem t565 : Cond.methodLink "TemperCellar$Tokens" 76 ⟨"TemperCellar$Tokens", "isAlike", "(III)Z"⟩ ∈ T0 := T0_k3 85 rfl rfl
theorem t567 : Cond.instanceMethod ⟨"TemperCellar$Tokens", "isAlike", "(III)Z"⟩ ∈ T0 := T0_k3 87 rfl rfl
theorem t568 : Cond.code ⟨"TemperCellar$Tokens", "isAlike", "(III)Z"⟩ prog_7_method_7_code 5 (some FieldType.boolean) ∈ T0 := T0_k3 88 rfl rfl
theorem t569 : Cond.methodLink "TemperCellar$Tokens" 55 ⟨"TemperCellar$Tokens", "signOf", "(II)I"⟩ ∈ T0 := T0_k3 89 rfl rfl
theorem t570 : Cond.static ⟨"TemperCellar$Tokens", "signOf", "(II)I"⟩ ∈ T0 := T0_k3 90 rfl rfl
theorem t571 : Cond.code ⟨"TemperCellar$Tokens", "signOf", "(II)I"⟩ prog_7_method_8_code 2 (some FieldType.int) ∈ T0 := T0_k3 91 rfl rfl
theorem t572 : Cond.methodLink "TemperCellar$Tokens" 58 ⟨"TemperCellar$Tokens", "isOfTwo", "(I)Z"⟩ ∈ T0 := T0_k3 92 rfl rfl
theorem t573 : Cond.static ⟨"TemperCellar$Tokens", "isOfTwo", "(I)Z"⟩ ∈ T0 := T0_k3 93 rfl rfl
theorem t574 : Cond.code ⟨"TemperCellar$Tokens", "isOfTwo", "(I)Z"⟩ prog_7_method_9_code 1 (some FieldType.boolean) ∈ T0 := T0_k3 94 rfl rfl
theorem t575 : Cond.methodLink "TemperCellar" 105 ⟨"TemperCellar$Reader", "read", "(LTemperCellar$Told;)I"⟩ ∈ T0 := T0_k3 95 rfl rfl
theorem t576 : Cond.instanceMethod ⟨"TemperCellar$Reader", "read", "(LTemperCellar$Told;)I"⟩ ∈ T0 := T0_k3 96 rfl rfl
theorem t577 : Cond.selects "TemperCellar$Reader" ⟨"TemperCellar$Reader", "read", "(LTemperCellar$Told;)I"⟩ ⟨"TemperCellar$Reader", "read", "(LTemperCellar$Told;)I"⟩ ∈ T0 := T0_k3 97 rfl rfl
theorem t578 : Cond.code ⟨"TemperCellar$Reader", "read", "(LTemperCellar$Told;)I"⟩ prog_4_method_2_code 3 (some FieldType.int) ∈ T0 := T0_k3 98 rfl rfl
theorem t579 : Cond.methodLink "TemperCellar$Reader" 23 ⟨"TemperCellar$Told", "clear", "()V"⟩ ∈ T0 := T0_k3 99 rfl rfl
theorem t580 : Cond.instanceMethod ⟨"TemperCellar$Told", "clear", "()V"⟩ ∈ T0 := T0_k3 100 rfl rfl
theorem t581 : Cond.selects "TemperCellar$Told" ⟨"TemperCellar$Told", "clear", "()V"⟩ ⟨"TemperCellar$Told", "clear", "()V"⟩ ∈ T0 := T0_k3 101 rfl rfl
theorem t582 : Cond.code ⟨"TemperCellar$Told", "clear", "()V"⟩ prog_8_method_2_code 1 (none : Option FieldType) ∈ T0 := T0_k3 102 rfl rfl
theorem t583 : Cond.methodLink "TemperCellar$Told" 71 ⟨"TemperCellar$Laws", "clear", "()V"⟩ ∈ T0 := T0_k3 103 rfl rfl
theorem t584 : Cond.methodLink "TemperCellar$Reader" 41 ⟨"TemperCellar$Reader", "kind", "()I"⟩ ∈ T0 := T0_k3 104 rfl rfl
theorem t586 : Cond.instanceMethod ⟨"TemperCellar$Reader", "kind", "()I"⟩ ∈ T0 := T0_k3 106 rfl rfl
theorem t587 : Cond.code ⟨"TemperCellar$Reader", "kind", "()I"⟩ prog_4_method_3_code 1 (some FieldType.int) ∈ T0 := T0_k3 107 rfl rfl
theorem t588 : Cond.methodLink "TemperCellar$Reader" 45 ⟨"TemperCellar$Reader", "readLine", "()V"⟩ ∈ T0 := T0_k3 108 rfl rfl
theorem t590 : Cond.instanceMethod ⟨"TemperCellar$Reader", "readLine", "()V"⟩ ∈ T0 := T0_k3 110 rfl rfl
theorem t591 : Cond.code ⟨"TemperCellar$Reader", "readLine", "()V"⟩ prog_4_method_7_code 1 (none : Option FieldType) ∈ T0 := T0_k3 111 rfl rfl
theorem t592 : Cond.methodLink "TemperCellar$Reader" 59 ⟨"TemperCellar$Reader", "readMan", "()V"⟩ ∈ T0 := T0_k3 112 rfl rfl
theorem t594 : Cond.instanceMethod ⟨"TemperCellar$Reader", "readMan", "()V"⟩ ∈ T0 := T0_k3 114 rfl rfl
theorem t595 : Cond.code ⟨"TemperCellar$Reader", "readMan", "()V"⟩ prog_4_method_8_code 2 (none : Option FieldType) ∈ T0 := T0_k3 115 rfl rfl
theorem t596 : Cond.methodLink "TemperCellar$Reader" 77 ⟨"TemperCellar$Reader", "refuse", "(I)V"⟩ ∈ T0 := T0_k3 116 rfl rfl
theorem t598 : Cond.instanceMethod ⟨"TemperCellar$Reader", "refuse", "(I)V"⟩ ∈ T0 := T0_k3 118 rfl rfl
theorem t599 : Cond.code ⟨"TemperCellar$Reader", "refuse", "(I)V"⟩ prog_4_method_6_code 2 (none : Option FieldType) ∈ T0 := T0_k3 119 rfl rfl
theorem t600 : Cond.methodLink "TemperCellar$Reader" 87 ⟨"TemperCellar$Reader", "step", "()V"⟩ ∈ T0 := T0_k3 120 rfl rfl
theorem t602 : Cond.instanceMethod ⟨"TemperCellar$Reader", "step", "()V"⟩ ∈ T0 := T0_k3 122 rfl rfl
theorem t603 : Cond.code ⟨"TemperCellar$Reader", "step", "()V"⟩ prog_4_method_5_code 1 (none : Option FieldType) ∈ T0 := T0_k3 123 rfl rfl
theorem t604 : Cond.methodLink "TemperCellar$Reader" 93 ⟨"TemperCellar$Reader", "value", "()I"⟩ ∈ T0 := T0_k3 124 rfl rfl
theorem t606 : Cond.instanceMethod ⟨"TemperCellar$Reader", "value", "()I"⟩ ∈ T0 := T0_k3 126 rfl rfl
theorem t607 : Cond.code ⟨"TemperCellar$Reader", "value", "()I"⟩ prog_4_method_4_code 1 (some FieldType.int) ∈ T0 := T0_k3 127 rfl rfl
theorem t608 : Cond.methodLink "TemperCellar$Reader" 95 ⟨"TemperCellar$Told", "personNamed", "(I)I"⟩ ∈ T0 := T0_k3 128 rfl rfl
theorem t609 : Cond.instanceMethod ⟨"TemperCellar$Told", "personNamed", "(I)I"⟩ ∈ T0 := T0_k3 129 rfl rfl
theorem t610 : Cond.selects "TemperCellar$Told" ⟨"TemperCellar$Told", "personNamed", "(I)I"⟩ ⟨"TemperCellar$Told", "personNamed", "(I)I"⟩ ∈ T0 := T0_k3 130 rfl rfl
theorem t611 : Cond.code ⟨"TemperCellar$Told", "personNamed", "(I)I"⟩ prog_8_method_3_code 2 (some FieldType.int) ∈ T0 := T0_k3 131 rfl rfl
theorem t612 : Cond.methodLink "TemperCellar$Told" 74 ⟨"TemperCellar$Told", "placeOf", "(I[II)I"⟩ ∈ T0 := T0_k3 132 rfl rfl
theorem t613 : Cond.static ⟨"TemperCellar$Told", "placeOf", "(I[II)I"⟩ ∈ T0 := T0_k3 133 rfl rfl
theorem t614 : Cond.code ⟨"TemperCellar$Told", "placeOf", "(I[II)I"⟩ prog_8_method_5_code 4 (some FieldType.int) ∈ T0 := T0_k3 134 rfl rfl
theorem t615 : Cond.methodLink "TemperCellar$Reader" 99 ⟨"TemperCellar$Reader", "takeNewName", "(I)I"⟩ ∈ T0 := T0_k3 135 rfl rfl
theorem t617 : Cond.instanceMethod ⟨"TemperCellar$Reader", "takeNewName", "(I)I"⟩ ∈ T0 := T0_k3 137 rfl rfl
theorem t618 : Cond.code ⟨"TemperCellar$Reader", "takeNewName", "(I)I"⟩ prog_4_method_16_code 3 (some FieldType.int) ∈ T0 := T0_k3 138 rfl rfl
theorem t619 : Cond.methodLink "TemperCellar$Reader" 81 ⟨"TemperCellar$Reader", "take", "(I)V"⟩ ∈ T0 := T0_k3 139 rfl rfl
theorem t621 : Cond.instanceMethod ⟨"TemperCellar$Reader", "take", "(I)V"⟩ ∈ T0 := T0_k3 141 rfl rfl
theorem t622 : Cond.code ⟨"TemperCellar$Reader", "take", "(I)V"⟩ prog_4_method_14_code 2 (none : Option FieldType) ∈ T0 := T0_k3 142 rfl rfl
theorem t623 : Cond.methodLink "TemperCellar$Reader" 105 ⟨"TemperCellar$Reader", "takeNumber", "(II)I"⟩ ∈ T0 := T0_k3 143 rfl rfl
theorem t625 : Cond.instanceMethod ⟨"TemperCellar$Reader", "takeNumber", "(II)I"⟩ ∈ T0 := T0_k3 145 rfl rfl
theorem t626 : Cond.code ⟨"TemperCellar$Reader", "takeNumber", "(II)I"⟩ prog_4_method_15_code 4 (some FieldType.int) ∈ T0 := T0_k3 146 rfl rfl
theorem t628 : Cond.static ⟨"TemperCellar", "isAmong", "(III)Z"⟩ ∈ T0 := T0_k3 148 rfl rfl
theorem t629 : Cond.code ⟨"TemperCellar", "isAmong", "(III)Z"⟩ prog_1_method_60_code 3 (some FieldType.boolean) ∈ T0 := T0_k3 149 rfl rfl
theorem t630 : Cond.methodLink "TemperCellar$Reader" 62 ⟨"TemperCellar$Reader", "readBottle", "()V"⟩ ∈ T0 := T0_k3 150 rfl rfl
theorem t632 : Cond.instanceMethod ⟨"TemperCellar$Reader", "readBottle", "()V"⟩ ∈ T0 := T0_k3 152 rfl rfl
theorem t633 : Cond.code ⟨"TemperCellar$Reader", "readBottle", "()V"⟩ prog_4_method_9_code 2 (none : Option FieldType) ∈ T0 := T0_k3 153 rfl rfl
theorem t634 : Cond.methodLink "TemperCellar$Reader" 115 ⟨"TemperCellar$Told", "bottleNamed", "(I)I"⟩ ∈ T0 := T0_k3 154 rfl rfl
theorem t635 : Cond.instanceMethod ⟨"TemperCellar$Told", "bottleNamed", "(I)I"⟩ ∈ T0 := T0_k3 155 rfl rfl
theorem t636 : Cond.selects "TemperCellar$Told" ⟨"TemperCellar$Told", "bottleNamed", "(I)I"⟩ ⟨"TemperCellar$Told", "bottleNamed", "(I)I"⟩ ∈ T0 := T0_k3 156 rfl rfl
theorem t637 : Cond.code ⟨"TemperCellar$Told", "bottleNamed", "(I)I"⟩ prog_8_method_4_code 2 (some FieldType.int) ∈ T0 := T0_k3 157 rfl rfl
theorem t638 : Cond.methodLink "TemperCellar$Reader" 121 ⟨"TemperCellar$Reader", "takePerson", "(I)I"⟩ ∈ T0 := T0_k3 158 rfl rfl
theorem t640 : Cond.instanceMethod ⟨"TemperCellar$Reader", "takePerson", "(I)I"⟩ ∈ T0 := T0_k3 160 rfl rfl
theorem t641 : Cond.code ⟨"TemperCellar$Reader", "takePerson", "(I)I"⟩ prog_4_method_17_code 3 (some FieldType.int) ∈ T0 := T0_k3 161 rfl rfl
theorem t642 : Cond.methodLink "TemperCellar$Reader" 65 ⟨"TemperCellar$Reader", "readNeed", "()V"⟩ ∈ T0 := T0_k3 162 rfl rfl
theorem t644 : Cond.instanceMethod ⟨"TemperCellar$Reader", "readNeed", "()V"⟩ ∈ T0 := T0_k3 164 rfl rfl
theorem t645 : Cond.code ⟨"TemperCellar$Reader", "readNeed", "()V"⟩ prog_4_method_10_code 2 (none : Option FieldType) ∈ T0 := T0_k3 165 rfl rfl
theorem t646 : Cond.methodLink "TemperCellar$Reader" 68 ⟨"TemperCellar$Reader", "readThunder", "()V"⟩ ∈ T0 := T0_k3 166 rfl rfl
theorem t648 : Cond.instanceMethod ⟨"TemperCellar$Reader", "readThunder", "()V"⟩ ∈ T0 := T0_k3 168 rfl rfl
theorem t649 : Cond.code ⟨"TemperCellar$Reader", "readThunder", "()V"⟩ prog_4_method_11_code 1 (none : Option FieldType) ∈ T0 := T0_k3 169 rfl rfl
theorem t650 : Cond.methodLink "TemperCellar$Reader" 71 ⟨"TemperCellar$Reader", "readSeed", "()V"⟩ ∈ T0 := T0_k3 170 rfl rfl
theorem t652 : Cond.instanceMethod ⟨"TemperCellar$Reader", "readSeed", "()V"⟩ ∈ T0 := T0_k3 172 rfl rfl
theorem t653 : Cond.code ⟨"TemperCellar$Reader", "readSeed", "()V"⟩ prog_4_method_12_code 1 (none : Option FieldType) ∈ T0 := T0_k3 173 rfl rfl
theorem t654 : Cond.constant "TemperCellar$Reader" 154 (99999 : Int32) ∈ T0 := T0_k3 174 rfl rfl
theorem t655 : Cond.methodLink "TemperCellar$Reader" 74 ⟨"TemperCellar$Reader", "readLaw", "()V"⟩ ∈ T0 := T0_k3 175 rfl rfl
theorem t657 : Cond.instanceMethod ⟨"TemperCellar$Reader", "readLaw", "()V"⟩ ∈ T0 := T0_k3 177 rfl rfl
theorem t658 : Cond.code ⟨"TemperCellar$Reader", "readLaw", "()V"⟩ prog_4_method_13_code 2 (none : Option FieldType) ∈ T0 := T0_k3 178 rfl rfl
theorem t659 : Cond.methodLink "TemperCellar$Reader" 166 ⟨"TemperCellar$Laws", "isTold", "(I)Z"⟩ ∈ T0 := T0_k3 179 rfl rfl
theorem t660 : Cond.instanceMethod ⟨"TemperCellar$Laws", "isTold", "(I)Z"⟩ ∈ T0 := T0_k3 180 rfl rfl
theorem t661 : Cond.selects "TemperCellar$Laws" ⟨"TemperCellar$Laws", "isTold", "(I)Z"⟩ ⟨"TemperCellar$Laws", "isTold", "(I)Z"⟩ ∈ T0 := T0_k3 181 rfl rfl
theorem t662 : Cond.code ⟨"TemperCellar$Laws", "isTold", "(I)Z"⟩ prog_3_method_3_code 2 (some FieldType.boolean) ∈ T0 := T0_k3 182 rfl rfl
theorem t663 : Cond.methodLink "TemperCellar$Reader" 178 ⟨"TemperCellar$Reader", "readLevel", "(II)V"⟩ ∈ T0 := T0_k3 183 rfl rfl
theorem t665 : Cond.instanceMethod ⟨"TemperCellar$Reader", "readLevel", "(II)V"⟩ ∈ T0 := T0_k3 185 rfl rfl
theorem t666 : Cond.code ⟨"TemperCellar$Reader", "readLevel", "(II)V"⟩ prog_4_method_18_code 6 (none : Option FieldType) ∈ T0 := T0_k3 186 rfl rfl
theorem t667 : Cond.methodLink "TemperCellar$Reader" 185 ⟨"TemperCellar$Reader", "readNot", "(I)V"⟩ ∈ T0 := T0_k3 187 rfl rfl
theorem t669 : Cond.instanceMethod ⟨"TemperCellar$Reader", "readNot", "(I)V"⟩ ∈ T0 := T0_k3 189 rfl rfl
theorem t670 : Cond.code ⟨"TemperCellar$Reader", "readNot", "(I)V"⟩ prog_4_method_20_code 4 (none : Option FieldType) ∈ T0 := T0_k3 190 rfl rfl
theorem t671 : Cond.methodLink "TemperCellar$Reader" 194 ⟨"TemperCellar$Reader", "takeKnot", "()V"⟩ ∈ T0 := T0_k3 191 rfl rfl
theorem t673 : Cond.instanceMethod ⟨"TemperCellar$Reader", "takeKnot", "()V"⟩ ∈ T0 := T0_k3 193 rfl rfl
theorem t674 : Cond.code ⟨"TemperCellar$Reader", "takeKnot", "()V"⟩ prog_4_method_22_code 1 (none : Option FieldType) ∈ T0 := T0_k3 194 rfl rfl
theorem t675 : Cond.methodLink "TemperCellar$Reader" 197 ⟨"TemperCellar$Laws", "put", "(II)V"⟩ ∈ T0 := T0_k3 195 rfl rfl
theorem t676 : Cond.instanceMethod ⟨"TemperCellar$Laws", "put", "(II)V"⟩ ∈ T0 := T0_k3 196 rfl rfl
theorem t677 : Cond.selects "TemperCellar$Laws" ⟨"TemperCellar$Laws", "put", "(II)V"⟩ ⟨"TemperCellar$Laws", "put", "(II)V"⟩ ∈ T0 := T0_k3 197 rfl rfl
theorem t678 : Cond.code ⟨"TemperCellar$Laws", "put", "(II)V"⟩ prog_3_method_4_code 3 (none : Option FieldType) ∈ T0 := T0_k3 198 rfl rfl
theorem t679 : Cond.methodLink "TemperCellar$Reader" 188 ⟨"TemperCellar$Reader", "readPart", "(I)V"⟩ ∈ T0 := T0_k3 199 rfl rfl
theorem t681 : Cond.instanceMethod ⟨"TemperCellar$Reader", "readPart", "(I)V"⟩ ∈ T0 := T0_k3 201 rfl rfl
theorem t682 : Cond.code ⟨"TemperCellar$Reader", "readPart", "(I)V"⟩ prog_4_method_21_code 4 (none : Option FieldType) ∈ T0 := T0_k3 202 rfl rfl
theorem t683 : Cond.methodLink "TemperCellar$Reader" 191 ⟨"TemperCellar$Reader", "levelOf", "(I)I"⟩ ∈ T0 := T0_k3 203 rfl rfl
theorem t684 : Cond.static ⟨"TemperCellar$Reader", "levelOf", "(I)I"⟩ ∈ T0 := T0_k3 204 rfl rfl
theorem t685 : Cond.code ⟨"TemperCellar$Reader", "levelOf", "(I)I"⟩ prog_4_method_19_code 1 (some FieldType.int) ∈ T0 := T0_k3 205 rfl rfl
theorem t686 : Cond.methodLink "TemperCellar" 109 ⟨"TemperCellar$Seen", "clear", "()V"⟩ ∈ T0 := T0_k3 206 rfl rfl
theorem t687 : Cond.instanceMethod ⟨"TemperCellar$Seen", "clear", "()V"⟩ ∈ T0 := T0_k3 207 rfl rfl
theorem t688 : Cond.selects "TemperCellar$Seen" ⟨"TemperCellar$Seen", "clear", "()V"⟩ ⟨"TemperCellar$Seen", "clear", "()V"⟩ ∈ T0 := T0_k3 208 rfl rfl
theorem t689 : Cond.code ⟨"TemperCellar$Seen", "clear", "()V"⟩ prog_5_method_2_code 1 (none : Option FieldType) ∈ T0 := T0_k3 209 rfl rfl
theorem t690 : Cond.methodLink "TemperCellar" 112 ⟨"TemperCellar$Undos", "clear", "()V"⟩ ∈ T0 := T0_k3 210 rfl rfl
theorem t691 : Cond.instanceMethod ⟨"TemperCellar$Undos", "clear", "()V"⟩ ∈ T0 := T0_k3 211 rfl rfl
theorem t692 : Cond.selects "TemperCellar$Undos" ⟨"TemperCellar$Undos", "clear", "()V"⟩ ⟨"TemperCellar$Undos", "clear", "()V"⟩ ∈ T0 := T0_k3 212 rfl rfl
theorem t693 : Cond.code ⟨"TemperCellar$Undos", "clear", "()V"⟩ prog_9_method_2_code 1 (none : Option FieldType) ∈ T0 := T0_k3 213 rfl rfl
theorem t694 : Cond.methodLink "TemperCellarLaw" 31 ⟨"TemperCellar", "fault", "(I)I"⟩ ∈ T0 := T0_k3 214 rfl rfl
theorem t695 : Cond.instanceMethod ⟨"TemperCellar", "fault", "(I)I"⟩ ∈ T0 := T0_k3 215 rfl rfl
theorem t696 : Cond.selects "TemperCellar" ⟨"TemperCellar", "fault", "(I)I"⟩ ⟨"TemperCellar", "fault", "(I)I"⟩ ∈ T0 := T0_k3 216 rfl rfl
theorem t697 : Cond.code ⟨"TemperCellar", "fault", "(I)I"⟩ prog_1_method_5_code 2 (some FieldType.int) ∈ T0 := T0_k3 217 rfl rfl
theorem t698 : Cond.methodLink "TemperCellarLaw" 35 ⟨"TemperCellar", "named", "(II)I"⟩ ∈ T0 := T0_k3 218 rfl rfl
theorem t699 : Cond.instanceMethod ⟨"TemperCellar", "named", "(II)I"⟩ ∈ T0 := T0_k3 219 rfl rfl
theorem t700 : Cond.selects "TemperCellar" ⟨"TemperCellar", "named", "(II)I"⟩ ⟨"TemperCellar", "named", "(II)I"⟩ ∈ T0 := T0_k3 220 rfl rfl
theorem t701 : Cond.code ⟨"TemperCellar", "named", "(II)I"⟩ prog_1_method_6_code 3 (some FieldType.int) ∈ T0 := T0_k3 221 rfl rfl
theorem t702 : Cond.methodLink "TemperCellar" 123 ⟨"TemperCellar$Told", "personNamed", "(I)I"⟩ ∈ T0 := T0_k3 222 rfl rfl
theorem t703 : Cond.methodLink "TemperCellar" 127 ⟨"TemperCellar$Told", "bottleNamed", "(I)I"⟩ ∈ T0 := T0_k3 223 rfl rfl
theorem t704 : Cond.methodLink "TemperCellarLaw" 49 ⟨"TemperCellar", "man", "(II)I"⟩ ∈ T0 := T0_k3 224 rfl rfl
theorem t705 : Cond.instanceMethod ⟨"TemperCellar", "man", "(II)I"⟩ ∈ T0 := T0_k3 225 rfl rfl
theorem t706 : Cond.selects "TemperCellar" ⟨"TemperCellar", "man", "(II)I"⟩ ⟨"TemperCellar", "man", "(II)I"⟩ ∈ T0 := T0_k3 226 rfl rfl
theorem t707 : Cond.code ⟨"TemperCellar", "man", "(II)I"⟩ prog_1_method_8_code 3 (some FieldType.int) ∈ T0 := T0_k3 227 rfl rfl
theorem t708 : Cond.methodLink "TemperCellar" 167 ⟨"TemperCellar", "isPerson", "(I)Z"⟩ ∈ T0 := T0_k3 228 rfl rfl
theorem t710 : Cond.instanceMethod ⟨"TemperCellar", "isPerson", "(I)Z"⟩ ∈ T0 := T0_k3 230 rfl rfl
theorem t711 : Cond.code ⟨"TemperCellar", "isPerson", "(I)Z"⟩ prog_1_method_54_code 2 (some FieldType.boolean) ∈ T0 := T0_k3 231 rfl rfl
theorem t712 : Cond.methodLink "TemperCellar" 239 ⟨"TemperCellar", "isAmong", "(III)Z"⟩ ∈ T0 := T0_k3 232 rfl rfl
theorem t713 : Cond.methodLink "TemperCellar" 173 ⟨"TemperCellar", "lyingOf", "(I)I"⟩ ∈ T0 := T0_k3 233 rfl rfl
theorem t715 : Cond.instanceMethod ⟨"TemperCellar", "lyingOf", "(I)I"⟩ ∈ T0 := T0_k3 235 rfl rfl
theorem t716 : Cond.code ⟨"TemperCellar", "lyingOf", "(I)I"⟩ prog_1_method_52_code 4 (some FieldType.int) ∈ T0 := T0_k3 236 rfl rfl
theorem t717 : Cond.methodLink "TemperCellar" 211 ⟨"TemperCellar$Cellar", "isLying", "(I)Z"⟩ ∈ T0 := T0_k3 237 rfl rfl
theorem t718 : Cond.instanceMethod ⟨"TemperCellar$Cellar", "isLying", "(I)Z"⟩ ∈ T0 := T0_k3 238 rfl rfl
theorem t719 : Cond.selects "TemperCellar$Cellar" ⟨"TemperCellar$Cellar", "isLying", "(I)Z"⟩ ⟨"TemperCellar$Cellar", "isLying", "(I)Z"⟩ ∈ T0 := T0_k3 239 rfl rfl
theorem t720 : Cond.code ⟨"TemperCellar$Cellar", "isLying", "(I)Z"⟩ prog_2_method_4_code 2 (some FieldType.boolean) ∈ T0 := T0_k4 0 rfl rfl
theorem t721 : Cond.methodLink "TemperCellar" 176 ⟨"java/lang/Integer", "bitCount", "(I)I"⟩ ∈ T0 := T0_k4 1 rfl rfl
theorem t722 : Cond.static ⟨"java/lang/Integer", "bitCount", "(I)I"⟩ ∈ T0 := T0_k4 2 rfl rfl
theorem t723 : Cond.code ⟨"java/lang/Integer", "bitCount", "(I)I"⟩ prog_18_method_49_code 1 (some FieldType.int) ∈ T0 := T0_k4 3 rfl rfl
theorem t724 : Cond.constant "java/lang/Integer" 265 (1431655765 : Int32) ∈ T0 := T0_k4 4 rfl rfl
theorem t725 : Cond.constant "java/lang/Integer" 266 (858993459 : Int32) ∈ T0 := T0_k4 5 rfl rfl
theorem t726 : Cond.constant "java/lang/Integer" 267 (252645135 : Int32) ∈ T0 := T0_k4 6 rfl rfl
theorem t727 : Cond.methodLink "TemperCellar" 181 ⟨"TemperCellar", "forceOf", "(I)I"⟩ ∈ T0 := T0_k4 7 rfl rfl
theorem t729 : Cond.instanceMethod ⟨"TemperCellar", "forceOf", "(I)I"⟩ ∈ T0 := T0_k4 9 rfl rfl
theorem t730 : Cond.code ⟨"TemperCellar", "forceOf", "(I)I"⟩ prog_1_method_53_code 4 (some FieldType.int) ∈ T0 := T0_k4 10 rfl rfl
theorem t731 : Cond.methodLink "TemperCellarLaw" 53 ⟨"TemperCellar", "need", "(II)I"⟩ ∈ T0 := T0_k4 11 rfl rfl
theorem t732 : Cond.instanceMethod ⟨"TemperCellar", "need", "(II)I"⟩ ∈ T0 := T0_k4 12 rfl rfl
theorem t733 : Cond.selects "TemperCellar" ⟨"TemperCellar", "need", "(II)I"⟩ ⟨"TemperCellar", "need", "(II)I"⟩ ∈ T0 := T0_k4 13 rfl rfl
theorem t734 : Cond.code ⟨"TemperCellar", "need", "(II)I"⟩ prog_1_method_9_code 3 (some FieldType.int) ∈ T0 := T0_k4 14 rfl rfl
theorem t735 : Cond.methodLink "TemperCellar" 187 ⟨"TemperCellar", "isNeed", "(I)Z"⟩ ∈ T0 := T0_k4 15 rfl rfl
theorem t737 : Cond.instanceMethod ⟨"TemperCellar", "isNeed", "(I)Z"⟩ ∈ T0 := T0_k4 17 rfl rfl
theorem t738 : Cond.code ⟨"TemperCellar", "isNeed", "(I)Z"⟩ prog_1_method_57_code 2 (some FieldType.boolean) ∈ T0 := T0_k4 18 rfl rfl
theorem t739 : Cond.methodLink "TemperCellarLaw" 57 ⟨"TemperCellar", "bin", "(I)I"⟩ ∈ T0 := T0_k4 19 rfl rfl
theorem t740 : Cond.instanceMethod ⟨"TemperCellar", "bin", "(I)I"⟩ ∈ T0 := T0_k4 20 rfl rfl
theorem t741 : Cond.selects "TemperCellar" ⟨"TemperCellar", "bin", "(I)I"⟩ ⟨"TemperCellar", "bin", "(I)I"⟩ ∈ T0 := T0_k4 21 rfl rfl
theorem t742 : Cond.code ⟨"TemperCellar", "bin", "(I)I"⟩ prog_1_method_10_code 4 (some FieldType.int) ∈ T0 := T0_k4 22 rfl rfl
theorem t743 : Cond.methodLink "TemperCellar" 205 ⟨"TemperCellar", "isBin", "(I)Z"⟩ ∈ T0 := T0_k4 23 rfl rfl
theorem t744 : Cond.static ⟨"TemperCellar", "isBin", "(I)Z"⟩ ∈ T0 := T0_k4 24 rfl rfl
theorem t745 : Cond.code ⟨"TemperCellar", "isBin", "(I)Z"⟩ prog_1_method_58_code 1 (some FieldType.boolean) ∈ T0 := T0_k4 25 rfl rfl
theorem t746 : Cond.methodLink "TemperCellarLaw" 61 ⟨"TemperCellar", "law", "(II)J"⟩ ∈ T0 := T0_k4 26 rfl rfl
theorem t747 : Cond.instanceMethod ⟨"TemperCellar", "law", "(II)J"⟩ ∈ T0 := T0_k4 27 rfl rfl
theorem t748 : Cond.selects "TemperCellar" ⟨"TemperCellar", "law", "(II)J"⟩ ⟨"TemperCellar", "law", "(II)J"⟩ ∈ T0 := T0_k4 28 rfl rfl
theorem t749 : Cond.code ⟨"TemperCellar", "law", "(II)J"⟩ prog_1_method_11_code 3 (some FieldType.long) ∈ T0 := T0_k4 29 rfl rfl
theorem t750 : Cond.methodLink "TemperCellar" 214 ⟨"TemperCellar", "isLyingBottle", "(I)Z"⟩ ∈ T0 := T0_k4 30 rfl rfl
theorem t752 : Cond.instanceMethod ⟨"TemperCellar", "isLyingBottle", "(I)Z"⟩ ∈ T0 := T0_k4 32 rfl rfl
theorem t753 : Cond.code ⟨"TemperCellar", "isLyingBottle", "(I)Z"⟩ prog_1_method_56_code 2 (some FieldType.boolean) ∈ T0 := T0_k4 33 rfl rfl
theorem t754 : Cond.methodLink "TemperCellar" 130 ⟨"TemperCellar", "isBottle", "(I)Z"⟩ ∈ T0 := T0_k4 34 rfl rfl
theorem t756 : Cond.instanceMethod ⟨"TemperCellar", "isBottle", "(I)Z"⟩ ∈ T0 := T0_k4 36 rfl rfl
theorem t757 : Cond.code ⟨"TemperCellar", "isBottle", "(I)Z"⟩ prog_1_method_55_code 2 (some FieldType.boolean) ∈ T0 := T0_k4 37 rfl rfl
theorem t758 : Cond.constantLong "TemperCellar" 217 (-9223372036854775808 : Int64) ∈ T0 := T0_k4 38 rfl rfl
theorem t759 : Cond.methodLink "TemperCellar" 219 ⟨"TemperCellar$Years", "start", "(LTemperCellar$Told;LTemperCellar$Cellar;I)V"⟩ ∈ T0 := T0_k4 39 rfl rfl
theorem t760 : Cond.instanceMethod ⟨"TemperCellar$Years", "start", "(LTemperCellar$Told;LTemperCellar$Cellar;I)V"⟩ ∈ T0 := T0_k4 40 rfl rfl
theorem t761 : Cond.selects "TemperCellar$Years" ⟨"TemperCellar$Years", "start", "(LTemperCellar$Told;LTemperCellar$Cellar;I)V"⟩ ⟨"TemperCellar$Years", "start", "(LTemperCellar$Told;LTemperCellar$Cellar;I)V"⟩ ∈ T0 := T0_k4 41 rfl rfl
theorem t762 : Cond.code ⟨"TemperCellar$Years", "start", "(LTemperCellar$Told;LTemperCellar$Cellar;I)V"⟩ prog_10_method_2_code 4 (none : Option FieldType) ∈ T0 := T0_k4 42 rfl rfl
theorem t763 : Cond.methodLink "TemperCellar" 223 ⟨"TemperCellar$Years", "worth", "(II)J"⟩ ∈ T0 := T0_k4 43 rfl rfl
theorem t764 : Cond.instanceMethod ⟨"TemperCellar$Years", "worth", "(II)J"⟩ ∈ T0 := T0_k4 44 rfl rfl
theorem t765 : Cond.selects "TemperCellar$Years" ⟨"TemperCellar$Years", "worth", "(II)J"⟩ ⟨"TemperCellar$Years", "worth", "(II)J"⟩ ∈ T0 := T0_k4 45 rfl rfl
theorem t766 : Cond.code ⟨"TemperCellar$Years", "worth", "(II)J"⟩ prog_10_method_13_code 10 (some FieldType.long) ∈ T0 := T0_k4 46 rfl rfl
theorem t767 : Cond.constantLong "TemperCellar$Years" 120 (-9223372036854775808 : Int64) ∈ T0 := T0_k4 47 rfl rfl
theorem t768 : Cond.methodLink "TemperCellar$Years" 189 ⟨"TemperCellar$Years", "nameWorth", "(II)J"⟩ ∈ T0 := T0_k4 48 rfl rfl
theorem t770 : Cond.instanceMethod ⟨"TemperCellar$Years", "nameWorth", "(II)J"⟩ ∈ T0 := T0_k4 50 rfl rfl
theorem t771 : Cond.code ⟨"TemperCellar$Years", "nameWorth", "(II)J"⟩ prog_10_method_14_code 3 (some FieldType.long) ∈ T0 := T0_k4 51 rfl rfl
theorem t772 : Cond.methodLink "TemperCellar$Years" 192 ⟨"TemperCellar$Years", "joined", "(IJJ)J"⟩ ∈ T0 := T0_k4 52 rfl rfl
theorem t773 : Cond.static ⟨"TemperCellar$Years", "joined", "(IJJ)J"⟩ ∈ T0 := T0_k4 53 rfl rfl
theorem t774 : Cond.code ⟨"TemperCellar$Years", "joined", "(IJJ)J"⟩ prog_10_method_15_code 5 (some FieldType.long) ∈ T0 := T0_k4 54 rfl rfl
theorem t775 : Cond.methodLink "TemperCellar$Years" 209 ⟨"TemperCellar$Years", "product", "(JJ)J"⟩ ∈ T0 := T0_k4 55 rfl rfl
theorem t776 : Cond.static ⟨"TemperCellar$Years", "product", "(JJ)J"⟩ ∈ T0 := T0_k4 56 rfl rfl
theorem t777 : Cond.code ⟨"TemperCellar$Years", "product", "(JJ)J"⟩ prog_10_method_16_code 6 (some FieldType.long) ∈ T0 := T0_k4 57 rfl rfl
theorem t778 : Cond.constantLong "TemperCellar$Years" 196 (1000000000000 : Int64) ∈ T0 := T0_k4 58 rfl rfl
theorem t779 : Cond.constantLong "TemperCellar$Years" 198 (-1000000000000 : Int64) ∈ T0 := T0_k4 59 rfl rfl
theorem t780 : Cond.methodLink "TemperCellarLaw" 66 ⟨"TemperCellar", "rack", "(II)Z"⟩ ∈ T0 := T0_k4 60 rfl rfl
theorem t781 : Cond.instanceMethod ⟨"TemperCellar", "rack", "(II)Z"⟩ ∈ T0 := T0_k4 61 rfl rfl
theorem t782 : Cond.selects "TemperCellar" ⟨"TemperCellar", "rack", "(II)Z"⟩ ⟨"TemperCellar", "rack", "(II)Z"⟩ ∈ T0 := T0_k4 62 rfl rfl
theorem t783 : Cond.code ⟨"TemperCellar", "rack", "(II)Z"⟩ prog_1_method_12_code 3 (some FieldType.boolean) ∈ T0 := T0_k4 63 rfl rfl
theorem t784 : Cond.methodLink "TemperCellar" 227 ⟨"TemperCellar$Undos", "add", "(III)V"⟩ ∈ T0 := T0_k4 64 rfl rfl
theorem t785 : Cond.instanceMethod ⟨"TemperCellar$Undos", "add", "(III)V"⟩ ∈ T0 := T0_k4 65 rfl rfl
theorem t786 : Cond.selects "TemperCellar$Undos" ⟨"TemperCellar$Undos", "add", "(III)V"⟩ ⟨"TemperCellar$Undos", "add", "(III)V"⟩ ∈ T0 := T0_k4 66 rfl rfl
theorem t787 : Cond.code ⟨"TemperCellar$Undos", "add", "(III)V"⟩ prog_9_method_3_code 4 (none : Option FieldType) ∈ T0 := T0_k4 67 rfl rfl
theorem t788 : Cond.methodLink "TemperCellar$Undos" 25 ⟨"TemperCellar$Undos", "forgetFirst", "()V"⟩ ∈ T0 := T0_k4 68 rfl rfl
theorem t790 : Cond.instanceMethod ⟨"TemperCellar$Undos", "forgetFirst", "()V"⟩ ∈ T0 := T0_k4 70 rfl rfl
theorem t791 : Cond.code ⟨"TemperCellar$Undos", "forgetFirst", "()V"⟩ prog_9_method_4_code 1 (none : Option FieldType) ∈ T0 := T0_k4 71 rfl rfl
theorem t792 : Cond.methodLink "TemperCellar$Undos" 28 ⟨"java/lang/System", "arraycopy", "(Ljava/lang/Object;ILjava/lang/Object;II)V"⟩ ∈ T0 := T0_k4 72 rfl rfl
theorem t793 : Cond.static ⟨"java/lang/System", "arraycopy", "(Ljava/lang/Object;ILjava/lang/Object;II)V"⟩ ∈ T0 := T0_k4 73 rfl rfl
theorem t794 : Cond.native ⟨"java/lang/System", "arraycopy", "(Ljava/lang/Object;ILjava/lang/Object;II)V"⟩ ∈ T0 := T0_k4 74 rfl rfl
theorem t795 : Cond.methodLink "TemperCellar" 231 ⟨"TemperCellar$Cellar", "move", "(II)V"⟩ ∈ T0 := T0_k4 75 rfl rfl
theorem t796 : Cond.instanceMethod ⟨"TemperCellar$Cellar", "move", "(II)V"⟩ ∈ T0 := T0_k4 76 rfl rfl
theorem t797 : Cond.selects "TemperCellar$Cellar" ⟨"TemperCellar$Cellar", "move", "(II)V"⟩ ⟨"TemperCellar$Cellar", "move", "(II)V"⟩ ∈ T0 := T0_k4 77 rfl rfl
theorem t798 : Cond.code ⟨"TemperCellar$Cellar", "move", "(II)V"⟩ prog_2_method_7_code 3 (none : Option FieldType) ∈ T0 := T0_k4 78 rfl rfl
theorem t799 : Cond.methodLink "TemperCellarLaw" 71 ⟨"TemperCellar", "seal", "(I)I"⟩ ∈ T0 := T0_k4 79 rfl rfl
theorem t800 : Cond.instanceMethod ⟨"TemperCellar", "seal", "(I)I"⟩ ∈ T0 := T0_k4 80 rfl rfl
theorem t801 : Cond.selects "TemperCellar" ⟨"TemperCellar", "seal", "(I)I"⟩ ⟨"TemperCellar", "seal", "(I)I"⟩ ∈ T0 := T0_k4 81 rfl rfl
theorem t802 : Cond.code ⟨"TemperCellar", "seal", "(I)I"⟩ prog_1_method_13_code 2 (some FieldType.int) ∈ T0 := T0_k4 82 rfl rfl
theorem t803 : Cond.methodLink "TemperCellarLaw" 75 ⟨"TemperCellar", "open", "(I)I"⟩ ∈ T0 := T0_k4 83 rfl rfl
theorem t804 : Cond.instanceMethod ⟨"TemperCellar", "open", "(I)I"⟩ ∈ T0 := T0_k4 84 rfl rfl
theorem t805 : Cond.selects "TemperCellar" ⟨"TemperCellar", "open", "(I)I"⟩ ⟨"TemperCellar", "open", "(I)I"⟩ ∈ T0 := T0_k4 85 rfl rfl
theorem t806 : Cond.code ⟨"TemperCellar", "open", "(I)I"⟩ prog_1_method_14_code 2 (some FieldType.int) ∈ T0 := T0_k4 86 rfl rfl
theorem t807 : Cond.methodLink "TemperCellar" 236 ⟨"TemperCellar$Cellar", "leave", "(II)V"⟩ ∈ T0 := T0_k4 87 rfl rfl
theorem t808 : Cond.instanceMethod ⟨"TemperCellar$Cellar", "leave", "(II)V"⟩ ∈ T0 := T0_k4 88 rfl rfl
theorem t809 : Cond.selects "TemperCellar$Cellar" ⟨"TemperCellar$Cellar", "leave", "(II)V"⟩ ⟨"TemperCellar$Cellar", "leave", "(II)V"⟩ ∈ T0 := T0_k4 89 rfl rfl
theorem t810 : Cond.code ⟨"TemperCellar$Cellar", "leave", "(II)V"⟩ prog_2_method_6_code 3 (none : Option FieldType) ∈ T0 := T0_k4 90 rfl rfl
theorem t811 : Cond.methodLink "TemperCellarLaw" 79 ⟨"TemperCellar", "go", "(I)I"⟩ ∈ T0 := T0_k4 91 rfl rfl
theorem t812 : Cond.instanceMethod ⟨"TemperCellar", "go", "(I)I"⟩ ∈ T0 := T0_k4 92 rfl rfl
theorem t813 : Cond.selects "TemperCellar" ⟨"TemperCellar", "go", "(I)I"⟩ ⟨"TemperCellar", "go", "(I)I"⟩ ∈ T0 := T0_k4 93 rfl rfl
theorem t814 : Cond.code ⟨"TemperCellar", "go", "(I)I"⟩ prog_1_method_15_code 2 (some FieldType.int) ∈ T0 := T0_k4 94 rfl rfl
theorem t815 : Cond.methodLink "TemperCellar" 246 ⟨"TemperCellar$Years", "pass", "(I)V"⟩ ∈ T0 := T0_k4 95 rfl rfl
theorem t816 : Cond.instanceMethod ⟨"TemperCellar$Years", "pass", "(I)V"⟩ ∈ T0 := T0_k4 96 rfl rfl
theorem t817 : Cond.selects "TemperCellar$Years" ⟨"TemperCellar$Years", "pass", "(I)V"⟩ ⟨"TemperCellar$Years", "pass", "(I)V"⟩ ∈ T0 := T0_k4 97 rfl rfl
theorem t818 : Cond.code ⟨"TemperCellar$Years", "pass", "(I)V"⟩ prog_10_method_3_code 3 (none : Option FieldType) ∈ T0 := T0_k4 98 rfl rfl
theorem t819 : Cond.methodLink "TemperCellar$Years" 38 ⟨"TemperCellar$Years", "passOne", "()V"⟩ ∈ T0 := T0_k4 99 rfl rfl
theorem t820 : Cond.instanceMethod ⟨"TemperCellar$Years", "passOne", "()V"⟩ ∈ T0 := T0_k4 100 rfl rfl
theorem t821 : Cond.selects "TemperCellar$Years" ⟨"TemperCellar$Years", "passOne", "()V"⟩ ⟨"TemperCellar$Years", "passOne", "()V"⟩ ∈ T0 := T0_k4 101 rfl rfl
theorem t822 : Cond.code ⟨"TemperCellar$Years", "passOne", "()V"⟩ prog_10_method_4_code 2 (none : Option FieldType) ∈ T0 := T0_k4 102 rfl rfl
theorem t823 : Cond.methodLink "TemperCellar$Years" 41 ⟨"TemperCellar$Years", "isThundering", "()Z"⟩ ∈ T0 := T0_k4 103 rfl rfl
theorem t825 : Cond.instanceMethod ⟨"TemperCellar$Years", "isThundering", "()Z"⟩ ∈ T0 := T0_k4 105 rfl rfl
theorem t826 : Cond.code ⟨"TemperCellar$Years", "isThundering", "()Z"⟩ prog_10_method_5_code 1 (some FieldType.boolean) ∈ T0 := T0_k4 106 rfl rfl
theorem t827 : Cond.constantLong "TemperCellar$Years" 88 (1103515245 : Int64) ∈ T0 := T0_k4 107 rfl rfl
theorem t828 : Cond.constantLong "TemperCellar$Years" 90 (12345 : Int64) ∈ T0 := T0_k4 108 rfl rfl
theorem t829 : Cond.constantLong "TemperCellar$Years" 92 (2147483647 : Int64) ∈ T0 := T0_k4 109 rfl rfl
theorem t830 : Cond.constantLong "TemperCellar$Years" 94 (65536 : Int64) ∈ T0 := T0_k4 110 rfl rfl
theorem t831 : Cond.constantLong "TemperCellar$Years" 96 (100 : Int64) ∈ T0 := T0_k4 111 rfl rfl
theorem t832 : Cond.methodLink "TemperCellar$Years" 45 ⟨"TemperCellar$Years", "creep", "()V"⟩ ∈ T0 := T0_k4 112 rfl rfl
theorem t834 : Cond.instanceMethod ⟨"TemperCellar$Years", "creep", "()V"⟩ ∈ T0 := T0_k4 114 rfl rfl
theorem t835 : Cond.code ⟨"TemperCellar$Years", "creep", "()V"⟩ prog_10_method_6_code 2 (none : Option FieldType) ∈ T0 := T0_k4 115 rfl rfl
theorem t836 : Cond.methodLink "TemperCellar$Years" 56 ⟨"TemperCellar$Cellar", "isLying", "(I)Z"⟩ ∈ T0 := T0_k4 116 rfl rfl
theorem t837 : Cond.methodLink "TemperCellar$Years" 101 ⟨"TemperCellar$Years", "measure", "(II)I"⟩ ∈ T0 := T0_k4 117 rfl rfl
theorem t839 : Cond.instanceMethod ⟨"TemperCellar$Years", "measure", "(II)I"⟩ ∈ T0 := T0_k4 119 rfl rfl
theorem t840 : Cond.code ⟨"TemperCellar$Years", "measure", "(II)I"⟩ prog_10_method_8_code 5 (some FieldType.int) ∈ T0 := T0_k4 120 rfl rfl
theorem t841 : Cond.methodLink "TemperCellar$Years" 116 ⟨"TemperCellar$Years", "worth", "(II)J"⟩ ∈ T0 := T0_k4 121 rfl rfl
theorem t842 : Cond.constantLong "TemperCellar$Years" 122 (9 : Int64) ∈ T0 := T0_k4 122 rfl rfl
theorem t843 : Cond.methodLink "TemperCellar$Years" 124 ⟨"java/lang/Math", "min", "(JJ)J"⟩ ∈ T0 := T0_k4 123 rfl rfl
theorem t844 : Cond.static ⟨"java/lang/Math", "min", "(JJ)J"⟩ ∈ T0 := T0_k4 124 rfl rfl
theorem t845 : Cond.code ⟨"java/lang/Math", "min", "(JJ)J"⟩ prog_19_method_70_code 4 (some FieldType.long) ∈ T0 := T0_k4 125 rfl rfl
theorem t846 : Cond.methodLink "TemperCellar$Years" 127 ⟨"java/lang/Math", "max", "(JJ)J"⟩ ∈ T0 := T0_k4 126 rfl rfl
theorem t847 : Cond.static ⟨"java/lang/Math", "max", "(JJ)J"⟩ ∈ T0 := T0_k4 127 rfl rfl
theorem t848 : Cond.code ⟨"java/lang/Math", "max", "(JJ)J"⟩ prog_19_method_66_code 4 (some FieldType.long) ∈ T0 := T0_k4 128 rfl rfl
theorem t849 : Cond.methodLink "TemperCellar$Years" 105 ⟨"java/lang/Math", "max", "(II)I"⟩ ∈ T0 := T0_k4 129 rfl rfl
theorem t850 : Cond.static ⟨"java/lang/Math", "max", "(II)I"⟩ ∈ T0 := T0_k4 130 rfl rfl
theorem t851 : Cond.code ⟨"java/lang/Math", "max", "(II)I"⟩ prog_19_method_65_code 2 (some FieldType.int) ∈ T0 := T0_k4 131 rfl rfl
theorem t852 : Cond.methodLink "TemperCellar$Years" 48 ⟨"TemperCellar$Years", "age", "()V"⟩ ∈ T0 := T0_k4 132 rfl rfl
theorem t854 : Cond.instanceMethod ⟨"TemperCellar$Years", "age", "()V"⟩ ∈ T0 := T0_k4 134 rfl rfl
theorem t855 : Cond.code ⟨"TemperCellar$Years", "age", "()V"⟩ prog_10_method_7_code 2 (none : Option FieldType) ∈ T0 := T0_k4 135 rfl rfl
theorem t856 : Cond.methodLink "TemperCellar$Years" 113 ⟨"java/lang/Math", "min", "(II)I"⟩ ∈ T0 := T0_k4 136 rfl rfl
theorem t857 : Cond.methodLink "TemperCellar$Years" 65 ⟨"TemperCellar$Years", "goOff", "(I)V"⟩ ∈ T0 := T0_k4 137 rfl rfl
theorem t858 : Cond.instanceMethod ⟨"TemperCellar$Years", "goOff", "(I)V"⟩ ∈ T0 := T0_k4 138 rfl rfl
theorem t859 : Cond.selects "TemperCellar$Years" ⟨"TemperCellar$Years", "goOff", "(I)V"⟩ ⟨"TemperCellar$Years", "goOff", "(I)V"⟩ ∈ T0 := T0_k4 139 rfl rfl
theorem t860 : Cond.code ⟨"TemperCellar$Years", "goOff", "(I)V"⟩ prog_10_method_9_code 6 (none : Option FieldType) ∈ T0 := T0_k4 140 rfl rfl
theorem t861 : Cond.methodLink "TemperCellar$Years" 129 ⟨"TemperCellar$Cellar", "leave", "(II)V"⟩ ∈ T0 := T0_k4 141 rfl rfl
theorem t862 : Cond.methodLink "TemperCellar$Years" 136 ⟨"TemperCellar$Years", "bursts", "(I)Z"⟩ ∈ T0 := T0_k4 142 rfl rfl
theorem t864 : Cond.instanceMethod ⟨"TemperCellar$Years", "bursts", "(I)Z"⟩ ∈ T0 := T0_k4 144 rfl rfl
theorem t865 : Cond.code ⟨"TemperCellar$Years", "bursts", "(I)Z"⟩ prog_10_method_10_code 4 (some FieldType.boolean) ∈ T0 := T0_k4 145 rfl rfl
theorem t866 : Cond.methodLink "TemperCellar$Years" 78 ⟨"TemperCellar$Years", "meet", "(I)V"⟩ ∈ T0 := T0_k4 146 rfl rfl
theorem t868 : Cond.instanceMethod ⟨"TemperCellar$Years", "meet", "(I)V"⟩ ∈ T0 := T0_k4 148 rfl rfl
theorem t869 : Cond.code ⟨"TemperCellar$Years", "meet", "(I)V"⟩ prog_10_method_11_code 5 (none : Option FieldType) ∈ T0 := T0_k4 149 rfl rfl
theorem t870 : Cond.methodLink "TemperCellar$Years" 142 ⟨"TemperCellar$Years", "weakest", "(IZ)I"⟩ ∈ T0 := T0_k4 150 rfl rfl
theorem t872 : Cond.instanceMethod ⟨"TemperCellar$Years", "weakest", "(IZ)I"⟩ ∈ T0 := T0_k4 152 rfl rfl
theorem t873 : Cond.code ⟨"TemperCellar$Years", "weakest", "(IZ)I"⟩ prog_10_method_12_code 6 (some FieldType.int) ∈ T0 := T0_k4 153 rfl rfl
theorem t875 : Cond.methodLink "TemperCellar$Years" 155 ⟨"TemperCellar$Cellar", "hate", "(II)V"⟩ ∈ T0 := T0_k4 155 rfl rfl
theorem t876 : Cond.instanceMethod ⟨"TemperCellar$Cellar", "hate", "(II)V"⟩ ∈ T0 := T0_k4 156 rfl rfl
theorem t877 : Cond.selects "TemperCellar$Cellar" ⟨"TemperCellar$Cellar", "hate", "(II)V"⟩ ⟨"TemperCellar$Cellar", "hate", "(II)V"⟩ ∈ T0 := T0_k4 157 rfl rfl
theorem t878 : Cond.code ⟨"TemperCellar$Cellar", "hate", "(II)V"⟩ prog_2_method_8_code 3 (none : Option FieldType) ∈ T0 := T0_k4 158 rfl rfl
theorem t879 : Cond.methodLink "TemperCellarLaw" 83 ⟨"TemperCellar", "ahead", "(III)I"⟩ ∈ T0 := T0_k4 159 rfl rfl
theorem t880 : Cond.instanceMethod ⟨"TemperCellar", "ahead", "(III)I"⟩ ∈ T0 := T0_k4 160 rfl rfl
theorem t881 : Cond.selects "TemperCellar" ⟨"TemperCellar", "ahead", "(III)I"⟩ ⟨"TemperCellar", "ahead", "(III)I"⟩ ∈ T0 := T0_k4 161 rfl rfl
theorem t882 : Cond.code ⟨"TemperCellar", "ahead", "(III)I"⟩ prog_1_method_16_code 4 (some FieldType.int) ∈ T0 := T0_k4 162 rfl rfl
theorem t883 : Cond.methodLink "TemperCellar" 249 ⟨"TemperCellar", "startTrial", "(I)V"⟩ ∈ T0 := T0_k4 163 rfl rfl
theorem t885 : Cond.instanceMethod ⟨"TemperCellar", "startTrial", "(I)V"⟩ ∈ T0 := T0_k4 165 rfl rfl
theorem t886 : Cond.code ⟨"TemperCellar", "startTrial", "(I)V"⟩ prog_1_method_50_code 2 (none : Option FieldType) ∈ T0 := T0_k4 166 rfl rfl
theorem t887 : Cond.methodLink "TemperCellar" 382 ⟨"TemperCellar$Cellar", "copyFrom", "(LTemperCellar$Cellar;)V"⟩ ∈ T0 := T0_k4 167 rfl rfl
theorem t888 : Cond.instanceMethod ⟨"TemperCellar$Cellar", "copyFrom", "(LTemperCellar$Cellar;)V"⟩ ∈ T0 := T0_k4 168 rfl rfl
theorem t889 : Cond.selects "TemperCellar$Cellar" ⟨"TemperCellar$Cellar", "copyFrom", "(LTemperCellar$Cellar;)V"⟩ ⟨"TemperCellar$Cellar", "copyFrom", "(LTemperCellar$Cellar;)V"⟩ ∈ T0 := T0_k4 169 rfl rfl
theorem t890 : Cond.code ⟨"TemperCellar$Cellar", "copyFrom", "(LTemperCellar$Cellar;)V"⟩ prog_2_method_3_code 2 (none : Option FieldType) ∈ T0 := T0_k4 170 rfl rfl
theorem t891 : Cond.methodLink "TemperCellar$Cellar" 71 ⟨"java/lang/System", "arraycopy", "(Ljava/lang/Object;ILjava/lang/Object;II)V"⟩ ∈ T0 := T0_k4 171 rfl rfl
theorem t892 : Cond.methodLink "TemperCellar" 252 ⟨"TemperCellar", "moreOff", "()I"⟩ ∈ T0 := T0_k4 172 rfl rfl
theorem t894 : Cond.instanceMethod ⟨"TemperCellar", "moreOff", "()I"⟩ ∈ T0 := T0_k4 174 rfl rfl
theorem t895 : Cond.code ⟨"TemperCellar", "moreOff", "()I"⟩ prog_1_method_51_code 1 (some FieldType.int) ∈ T0 := T0_k4 175 rfl rfl
theorem t896 : Cond.methodLink "TemperCellar" 397 ⟨"TemperCellar$Cellar", "howMany", "(I)I"⟩ ∈ T0 := T0_k4 176 rfl rfl
theorem t897 : Cond.instanceMethod ⟨"TemperCellar$Cellar", "howMany", "(I)I"⟩ ∈ T0 := T0_k4 177 rfl rfl
theorem t898 : Cond.selects "TemperCellar$Cellar" ⟨"TemperCellar$Cellar", "howMany", "(I)I"⟩ ⟨"TemperCellar$Cellar", "howMany", "(I)I"⟩ ∈ T0 := T0_k4 178 rfl rfl
theorem t899 : Cond.code ⟨"TemperCellar$Cellar", "howMany", "(I)I"⟩ prog_2_method_10_code 2 (some FieldType.int) ∈ T0 := T0_k4 179 rfl rfl
theorem t900 : Cond.methodLink "TemperCellar$Cellar" 77 ⟨"TemperCellar$Cellar", "bits", "(I)I"⟩ ∈ T0 := T0_k4 180 rfl rfl
theorem t901 : Cond.instanceMethod ⟨"TemperCellar$Cellar", "bits", "(I)I"⟩ ∈ T0 := T0_k4 181 rfl rfl
theorem t902 : Cond.selects "TemperCellar$Cellar" ⟨"TemperCellar$Cellar", "bits", "(I)I"⟩ ⟨"TemperCellar$Cellar", "bits", "(I)I"⟩ ∈ T0 := T0_k4 182 rfl rfl
theorem t903 : Cond.code ⟨"TemperCellar$Cellar", "bits", "(I)I"⟩ prog_2_method_9_code 4 (some FieldType.int) ∈ T0 := T0_k4 183 rfl rfl
theorem t904 : Cond.methodLink "TemperCellar$Cellar" 81 ⟨"java/lang/Integer", "bitCount", "(I)I"⟩ ∈ T0 := T0_k4 184 rfl rfl
theorem t905 : Cond.methodLink "TemperCellar" 256 ⟨"TemperCellar$Cellar", "metNeeds", "()I"⟩ ∈ T0 := T0_k4 185 rfl rfl
theorem t906 : Cond.instanceMethod ⟨"TemperCellar$Cellar", "metNeeds", "()I"⟩ ∈ T0 := T0_k4 186 rfl rfl
theorem t907 : Cond.selects "TemperCellar$Cellar" ⟨"TemperCellar$Cellar", "metNeeds", "()I"⟩ ⟨"TemperCellar$Cellar", "metNeeds", "()I"⟩ ∈ T0 := T0_k4 187 rfl rfl
theorem t908 : Cond.code ⟨"TemperCellar$Cellar", "metNeeds", "()I"⟩ prog_2_method_11_code 1 (some FieldType.int) ∈ T0 := T0_k4 188 rfl rfl
theorem t909 : Cond.methodLink "TemperCellar$Cellar" 86 ⟨"TemperCellar$Cellar", "needsWith", "(I)I"⟩ ∈ T0 := T0_k4 189 rfl rfl
theorem t911 : Cond.instanceMethod ⟨"TemperCellar$Cellar", "needsWith", "(I)I"⟩ ∈ T0 := T0_k4 191 rfl rfl
theorem t912 : Cond.code ⟨"TemperCellar$Cellar", "needsWith", "(I)I"⟩ prog_2_method_13_code 4 (some FieldType.int) ∈ T0 := T0_k4 192 rfl rfl
theorem t913 : Cond.methodLink "TemperCellar" 259 ⟨"TemperCellar$Cellar", "unmetNeeds", "()I"⟩ ∈ T0 := T0_k4 193 rfl rfl
theorem t914 : Cond.instanceMethod ⟨"TemperCellar$Cellar", "unmetNeeds", "()I"⟩ ∈ T0 := T0_k4 194 rfl rfl
theorem t915 : Cond.selects "TemperCellar$Cellar" ⟨"TemperCellar$Cellar", "unmetNeeds", "()I"⟩ ⟨"TemperCellar$Cellar", "unmetNeeds", "()I"⟩ ∈ T0 := T0_k4 195 rfl rfl
theorem t916 : Cond.code ⟨"TemperCellar$Cellar", "unmetNeeds", "()I"⟩ prog_2_method_12_code 1 (some FieldType.int) ∈ T0 := T0_k4 196 rfl rfl
theorem t917 : Cond.methodLink "TemperCellar" 262 ⟨"TemperCellar$Cellar", "hatingPairs", "()I"⟩ ∈ T0 := T0_k4 197 rfl rfl
theorem t918 : Cond.instanceMethod ⟨"TemperCellar$Cellar", "hatingPairs", "()I"⟩ ∈ T0 := T0_k4 198 rfl rfl
theorem t919 : Cond.selects "TemperCellar$Cellar" ⟨"TemperCellar$Cellar", "hatingPairs", "()I"⟩ ⟨"TemperCellar$Cellar", "hatingPairs", "()I"⟩ ∈ T0 := T0_k4 199 rfl rfl
theorem t920 : Cond.code ⟨"TemperCellar$Cellar", "hatingPairs", "()I"⟩ prog_2_method_14_code 3 (some FieldType.int) ∈ T0 := T0_k4 200 rfl rfl
theorem t921 : Cond.methodLink "TemperCellarLaw" 88 ⟨"TemperCellar", "firstOff", "(I)I"⟩ ∈ T0 := T0_k4 201 rfl rfl
theorem t922 : Cond.instanceMethod ⟨"TemperCellar", "firstOff", "(I)I"⟩ ∈ T0 := T0_k4 202 rfl rfl
theorem t923 : Cond.selects "TemperCellar" ⟨"TemperCellar", "firstOff", "(I)I"⟩ ⟨"TemperCellar", "firstOff", "(I)I"⟩ ∈ T0 := T0_k4 203 rfl rfl
theorem t924 : Cond.code ⟨"TemperCellar", "firstOff", "(I)I"⟩ prog_1_method_17_code 5 (some FieldType.int) ∈ T0 := T0_k4 204 rfl rfl
theorem t925 : Cond.methodLink "TemperCellar" 265 ⟨"TemperCellar$Cellar", "bits", "(I)I"⟩ ∈ T0 := T0_k4 205 rfl rfl
theorem t926 : Cond.methodLink "TemperCellar" 268 ⟨"TemperCellar$Years", "passOne", "()V"⟩ ∈ T0 := T0_k4 206 rfl rfl
theorem t927 : Cond.methodLink "TemperCellarLaw" 92 ⟨"TemperCellar", "chain", "(I)I"⟩ ∈ T0 := T0_k4 207 rfl rfl
theorem t928 : Cond.instanceMethod ⟨"TemperCellar", "chain", "(I)I"⟩ ∈ T0 := T0_k4 208 rfl rfl
theorem t929 : Cond.selects "TemperCellar" ⟨"TemperCellar", "chain", "(I)I"⟩ ⟨"TemperCellar", "chain", "(I)I"⟩ ∈ T0 := T0_k4 209 rfl rfl
theorem t930 : Cond.code ⟨"TemperCellar", "chain", "(I)I"⟩ prog_1_method_18_code 2 (some FieldType.int) ∈ T0 := T0_k4 210 rfl rfl
theorem t931 : Cond.methodLink "TemperCellar" 271 ⟨"TemperCellar$Years", "goOff", "(I)V"⟩ ∈ T0 := T0_k4 211 rfl rfl
theorem t932 : Cond.methodLink "TemperCellarLaw" 96 ⟨"TemperCellar", "racking", "(II)I"⟩ ∈ T0 := T0_k4 212 rfl rfl
theorem t933 : Cond.instanceMethod ⟨"TemperCellar", "racking", "(II)I"⟩ ∈ T0 := T0_k4 213 rfl rfl
theorem t934 : Cond.selects "TemperCellar" ⟨"TemperCellar", "racking", "(II)I"⟩ ⟨"TemperCellar", "racking", "(II)I"⟩ ∈ T0 := T0_k4 214 rfl rfl
theorem t935 : Cond.code ⟨"TemperCellar", "racking", "(II)I"⟩ prog_1_method_19_code 9 (some FieldType.int) ∈ T0 := T0_k4 215 rfl rfl
theorem t936 : Cond.methodLink "TemperCellar" 274 ⟨"TemperCellar", "findRacked", "()I"⟩ ∈ T0 := T0_k4 216 rfl rfl
theorem t938 : Cond.instanceMethod ⟨"TemperCellar", "findRacked", "()I"⟩ ∈ T0 := T0_k4 218 rfl rfl
theorem t939 : Cond.code ⟨"TemperCellar", "findRacked", "()I"⟩ prog_1_method_20_code 3 (some FieldType.int) ∈ T0 := T0_k4 219 rfl rfl
theorem t940 : Cond.methodLink "TemperCellar" 277 ⟨"TemperCellar", "offIfRacked", "(IIII)I"⟩ ∈ T0 := T0_k4 220 rfl rfl
theorem t942 : Cond.instanceMethod ⟨"TemperCellar", "offIfRacked", "(IIII)I"⟩ ∈ T0 := T0_k4 222 rfl rfl
theorem t943 : Cond.code ⟨"TemperCellar", "offIfRacked", "(IIII)I"⟩ prog_1_method_22_code 7 (some FieldType.int) ∈ T0 := T0_k4 223 rfl rfl
theorem t944 : Cond.methodLink "TemperCellar" 281 ⟨"TemperCellar", "binByWay", "(III)I"⟩ ∈ T0 := T0_k4 224 rfl rfl
theorem t945 : Cond.static ⟨"TemperCellar", "binByWay", "(III)I"⟩ ∈ T0 := T0_k4 225 rfl rfl
theorem t946 : Cond.code ⟨"TemperCellar", "binByWay", "(III)I"⟩ prog_1_method_21_code 3 (some FieldType.int) ∈ T0 := T0_k4 226 rfl rfl
theorem t947 : Cond.methodLink "TemperCellarLaw" 100 ⟨"TemperCellar", "serve", "(I)I"⟩ ∈ T0 := T0_k4 227 rfl rfl
theorem t948 : Cond.instanceMethod ⟨"TemperCellar", "serve", "(I)I"⟩ ∈ T0 := T0_k4 228 rfl rfl
theorem t949 : Cond.selects "TemperCellar" ⟨"TemperCellar", "serve", "(I)I"⟩ ⟨"TemperCellar", "serve", "(I)I"⟩ ∈ T0 := T0_k4 229 rfl rfl
theorem t950 : Cond.code ⟨"TemperCellar", "serve", "(I)I"⟩ prog_1_method_23_code 3 (some FieldType.int) ∈ T0 := T0_k4 230 rfl rfl
theorem t951 : Cond.methodLink "TemperCellar" 285 ⟨"TemperCellar$Service", "arrange", "(LTemperCellar$Told;LTemperCellar$Cellar;)V"⟩ ∈ T0 := T0_k4 231 rfl rfl
theorem t952 : Cond.instanceMethod ⟨"TemperCellar$Service", "arrange", "(LTemperCellar$Told;LTemperCellar$Cellar;)V"⟩ ∈ T0 := T0_k4 232 rfl rfl
theorem t953 : Cond.selects "TemperCellar$Service" ⟨"TemperCellar$Service", "arrange", "(LTemperCellar$Told;LTemperCellar$Cellar;)V"⟩ ⟨"TemperCellar$Service", "arrange", "(LTemperCellar$Told;LTemperCellar$Cellar;)V"⟩ ∈ T0 := T0_k4 233 rfl rfl
theorem t954 : Cond.code ⟨"TemperCellar$Service", "arrange", "(LTemperCellar$Told;LTemperCellar$Cellar;)V"⟩ prog_6_method_2_code 7 (none : Option FieldType) ∈ T0 := T0_k4 234 rfl rfl
theorem t955 : Cond.methodLink "TemperCellar$Service" 23 ⟨"TemperCellar$Cellar", "bits", "(I)I"⟩ ∈ T0 := T0_k4 235 rfl rfl
theorem t956 : Cond.methodLink "TemperCellar$Service" 29 ⟨"TemperCellar$Service", "mostFrom", "(II)I"⟩ ∈ T0 := T0_k4 236 rfl rfl
theorem t958 : Cond.instanceMethod ⟨"TemperCellar$Service", "mostFrom", "(II)I"⟩ ∈ T0 := T0_k4 238 rfl rfl
theorem t959 : Cond.code ⟨"TemperCellar$Service", "mostFrom", "(II)I"⟩ prog_6_method_5_code 8 (some FieldType.int) ∈ T0 := T0_k4 239 rfl rfl
theorem t960 : Cond.methodLink "TemperCellar$Service" 68 ⟨"TemperCellar$Service", "endingFirst", "(II)I"⟩ ∈ T0 := T0_k5 0 rfl rfl
theorem t962 : Cond.instanceMethod ⟨"TemperCellar$Service", "endingFirst", "(II)I"⟩ ∈ T0 := T0_k5 2 rfl rfl
theorem t963 : Cond.code ⟨"TemperCellar$Service", "endingFirst", "(II)I"⟩ prog_6_method_6_code 5 (some FieldType.int) ∈ T0 := T0_k5 3 rfl rfl
theorem t964 : Cond.methodLink "TemperCellar$Service" 71 ⟨"TemperCellar$Service", "weakestFor", "(II)I"⟩ ∈ T0 := T0_k5 4 rfl rfl
theorem t966 : Cond.instanceMethod ⟨"TemperCellar$Service", "weakestFor", "(II)I"⟩ ∈ T0 := T0_k5 6 rfl rfl
theorem t967 : Cond.code ⟨"TemperCellar$Service", "weakestFor", "(II)I"⟩ prog_6_method_7_code 5 (some FieldType.int) ∈ T0 := T0_k5 7 rfl rfl
theorem t968 : Cond.methodLink "TemperCellar$Service" 49 ⟨"TemperCellar$Service", "fits", "(III)Z"⟩ ∈ T0 := T0_k5 8 rfl rfl
theorem t970 : Cond.instanceMethod ⟨"TemperCellar$Service", "fits", "(III)Z"⟩ ∈ T0 := T0_k5 10 rfl rfl
theorem t971 : Cond.code ⟨"TemperCellar$Service", "fits", "(III)Z"⟩ prog_6_method_4_code 4 (some FieldType.boolean) ∈ T0 := T0_k5 11 rfl rfl
theorem t973 : Cond.methodLink "TemperCellar$Service" 42 ⟨"TemperCellar$Service", "choose", "(III)I"⟩ ∈ T0 := T0_k5 13 rfl rfl
theorem t975 : Cond.instanceMethod ⟨"TemperCellar$Service", "choose", "(III)I"⟩ ∈ T0 := T0_k5 15 rfl rfl
theorem t976 : Cond.code ⟨"TemperCellar$Service", "choose", "(III)I"⟩ prog_6_method_3_code 5 (some FieldType.int) ∈ T0 := T0_k5 16 rfl rfl
theorem t977 : Cond.methodLink "TemperCellarLaw" 104 ⟨"TemperCellar", "served", "()I"⟩ ∈ T0 := T0_k5 17 rfl rfl
theorem t978 : Cond.instanceMethod ⟨"TemperCellar", "served", "()I"⟩ ∈ T0 := T0_k5 18 rfl rfl
theorem t979 : Cond.selects "TemperCellar" ⟨"TemperCellar", "served", "()I"⟩ ⟨"TemperCellar", "served", "()I"⟩ ∈ T0 := T0_k5 19 rfl rfl
theorem t980 : Cond.code ⟨"TemperCellar", "served", "()I"⟩ prog_1_method_24_code 1 (some FieldType.int) ∈ T0 := T0_k5 20 rfl rfl
theorem t981 : Cond.methodLink "TemperCellarLaw" 108 ⟨"TemperCellar", "pour", "(II)I"⟩ ∈ T0 := T0_k5 21 rfl rfl
theorem t982 : Cond.instanceMethod ⟨"TemperCellar", "pour", "(II)I"⟩ ∈ T0 := T0_k5 22 rfl rfl
theorem t983 : Cond.selects "TemperCellar" ⟨"TemperCellar", "pour", "(II)I"⟩ ⟨"TemperCellar", "pour", "(II)I"⟩ ∈ T0 := T0_k5 23 rfl rfl
theorem t984 : Cond.code ⟨"TemperCellar", "pour", "(II)I"⟩ prog_1_method_25_code 6 (some FieldType.int) ∈ T0 := T0_k5 24 rfl rfl
theorem t985 : Cond.methodLink "TemperCellar" 294 ⟨"TemperCellar", "isForce", "(I)Z"⟩ ∈ T0 := T0_k5 25 rfl rfl
theorem t986 : Cond.static ⟨"TemperCellar", "isForce", "(I)Z"⟩ ∈ T0 := T0_k5 26 rfl rfl
theorem t987 : Cond.code ⟨"TemperCellar", "isForce", "(I)Z"⟩ prog_1_method_59_code 1 (some FieldType.boolean) ∈ T0 := T0_k5 27 rfl rfl
theorem t988 : Cond.methodLink "TemperCellarLaw" 112 ⟨"TemperCellar", "ripe", "(II)I"⟩ ∈ T0 := T0_k5 28 rfl rfl
theorem t989 : Cond.instanceMethod ⟨"TemperCellar", "ripe", "(II)I"⟩ ∈ T0 := T0_k5 29 rfl rfl
theorem t990 : Cond.selects "TemperCellar" ⟨"TemperCellar", "ripe", "(II)I"⟩ ⟨"TemperCellar", "ripe", "(II)I"⟩ ∈ T0 := T0_k5 30 rfl rfl
theorem t991 : Cond.code ⟨"TemperCellar", "ripe", "(II)I"⟩ prog_1_method_26_code 4 (some FieldType.int) ∈ T0 := T0_k5 31 rfl rfl
theorem t992 : Cond.methodLink "TemperCellarLaw" 116 ⟨"TemperCellar", "dowry", "(II)I"⟩ ∈ T0 := T0_k5 32 rfl rfl
theorem t993 : Cond.instanceMethod ⟨"TemperCellar", "dowry", "(II)I"⟩ ∈ T0 := T0_k5 33 rfl rfl
theorem t994 : Cond.selects "TemperCellar" ⟨"TemperCellar", "dowry", "(II)I"⟩ ⟨"TemperCellar", "dowry", "(II)I"⟩ ∈ T0 := T0_k5 34 rfl rfl
theorem t995 : Cond.code ⟨"TemperCellar", "dowry", "(II)I"⟩ prog_1_method_27_code 9 (some FieldType.int) ∈ T0 := T0_k5 35 rfl rfl
theorem t996 : Cond.methodLink "TemperCellar" 297 ⟨"java/lang/Math", "abs", "(I)I"⟩ ∈ T0 := T0_k5 36 rfl rfl
theorem t997 : Cond.static ⟨"java/lang/Math", "abs", "(I)I"⟩ ∈ T0 := T0_k5 37 rfl rfl
theorem t998 : Cond.code ⟨"java/lang/Math", "abs", "(I)I"⟩ prog_19_method_59_code 1 (some FieldType.int) ∈ T0 := T0_k5 38 rfl rfl
theorem t999 : Cond.methodLink "TemperCellarLaw" 120 ⟨"TemperCellar", "ring", "()I"⟩ ∈ T0 := T0_k5 39 rfl rfl
theorem t1000 : Cond.instanceMethod ⟨"TemperCellar", "ring", "()I"⟩ ∈ T0 := T0_k5 40 rfl rfl
theorem t1001 : Cond.selects "TemperCellar" ⟨"TemperCellar", "ring", "()I"⟩ ⟨"TemperCellar", "ring", "()I"⟩ ∈ T0 := T0_k5 41 rfl rfl
theorem t1002 : Cond.code ⟨"TemperCellar", "ring", "()I"⟩ prog_1_method_28_code 3 (some FieldType.int) ∈ T0 := T0_k5 42 rfl rfl
theorem t1003 : Cond.methodLink "TemperCellar" 305 ⟨"TemperCellar", "comesBack", "(I)Z"⟩ ∈ T0 := T0_k5 43 rfl rfl
theorem t1005 : Cond.instanceMethod ⟨"TemperCellar", "comesBack", "(I)Z"⟩ ∈ T0 := T0_k5 45 rfl rfl
theorem t1006 : Cond.code ⟨"TemperCellar", "comesBack", "(I)Z"⟩ prog_1_method_29_code 5 (some FieldType.boolean) ∈ T0 := T0_k5 46 rfl rfl
theorem t1007 : Cond.methodLink "TemperCellar" 308 ⟨"TemperCellar", "strongestOf", "(I)I"⟩ ∈ T0 := T0_k5 47 rfl rfl
theorem t1009 : Cond.instanceMethod ⟨"TemperCellar", "strongestOf", "(I)I"⟩ ∈ T0 := T0_k5 49 rfl rfl
theorem t1010 : Cond.code ⟨"TemperCellar", "strongestOf", "(I)I"⟩ prog_1_method_35_code 4 (some FieldType.int) ∈ T0 := T0_k5 50 rfl rfl
theorem t1011 : Cond.methodLink "TemperCellarLaw" 124 ⟨"TemperCellar", "rests", "(II)I"⟩ ∈ T0 := T0_k5 51 rfl rfl
theorem t1012 : Cond.instanceMethod ⟨"TemperCellar", "rests", "(II)I"⟩ ∈ T0 := T0_k5 52 rfl rfl
theorem t1013 : Cond.selects "TemperCellar" ⟨"TemperCellar", "rests", "(II)I"⟩ ⟨"TemperCellar", "rests", "(II)I"⟩ ∈ T0 := T0_k5 53 rfl rfl
theorem t1014 : Cond.code ⟨"TemperCellar", "rests", "(II)I"⟩ prog_1_method_30_code 5 (some FieldType.int) ∈ T0 := T0_k5 54 rfl rfl
theorem t1015 : Cond.methodLink "TemperCellar" 311 ⟨"TemperCellar", "isRest", "(III)Z"⟩ ∈ T0 := T0_k5 55 rfl rfl
theorem t1017 : Cond.instanceMethod ⟨"TemperCellar", "isRest", "(III)Z"⟩ ∈ T0 := T0_k5 57 rfl rfl
theorem t1018 : Cond.code ⟨"TemperCellar", "isRest", "(III)Z"⟩ prog_1_method_32_code 8 (some FieldType.boolean) ∈ T0 := T0_k5 58 rfl rfl
theorem t1019 : Cond.methodLink "TemperCellar" 314 ⟨"TemperCellar", "highestForceOf", "(I)I"⟩ ∈ T0 := T0_k5 59 rfl rfl
theorem t1021 : Cond.instanceMethod ⟨"TemperCellar", "highestForceOf", "(I)I"⟩ ∈ T0 := T0_k5 61 rfl rfl
theorem t1022 : Cond.code ⟨"TemperCellar", "highestForceOf", "(I)I"⟩ prog_1_method_34_code 3 (some FieldType.int) ∈ T0 := T0_k5 62 rfl rfl
theorem t1023 : Cond.methodLink "TemperCellar" 317 ⟨"TemperCellar", "gain", "(IIZZ)I"⟩ ∈ T0 := T0_k5 63 rfl rfl
theorem t1024 : Cond.static ⟨"TemperCellar", "gain", "(IIZZ)I"⟩ ∈ T0 := T0_k5 64 rfl rfl
theorem t1025 : Cond.code ⟨"TemperCellar", "gain", "(IIZZ)I"⟩ prog_1_method_33_code 5 (some FieldType.int) ∈ T0 := T0_k5 65 rfl rfl
theorem t1026 : Cond.methodLink "TemperCellarLaw" 128 ⟨"TemperCellar", "rest", "(III)I"⟩ ∈ T0 := T0_k5 66 rfl rfl
theorem t1027 : Cond.instanceMethod ⟨"TemperCellar", "rest", "(III)I"⟩ ∈ T0 := T0_k5 67 rfl rfl
theorem t1028 : Cond.selects "TemperCellar" ⟨"TemperCellar", "rest", "(III)I"⟩ ⟨"TemperCellar", "rest", "(III)I"⟩ ∈ T0 := T0_k5 68 rfl rfl
theorem t1029 : Cond.code ⟨"TemperCellar", "rest", "(III)I"⟩ prog_1_method_31_code 6 (some FieldType.int) ∈ T0 := T0_k5 69 rfl rfl
theorem t1030 : Cond.methodLink "TemperCellarLaw" 132 ⟨"TemperCellar", "lasts", "(III)J"⟩ ∈ T0 := T0_k5 70 rfl rfl
theorem t1031 : Cond.instanceMethod ⟨"TemperCellar", "lasts", "(III)J"⟩ ∈ T0 := T0_k5 71 rfl rfl
theorem t1032 : Cond.selects "TemperCellar" ⟨"TemperCellar", "lasts", "(III)J"⟩ ⟨"TemperCellar", "lasts", "(III)J"⟩ ∈ T0 := T0_k5 72 rfl rfl
theorem t1033 : Cond.code ⟨"TemperCellar", "lasts", "(III)J"⟩ prog_1_method_36_code 12 (some FieldType.long) ∈ T0 := T0_k5 73 rfl rfl
theorem t1034 : Cond.constantLong "TemperCellar" 321 (-1 : Int64) ∈ T0 := T0_k5 74 rfl rfl
theorem t1035 : Cond.methodLink "TemperCellar" 326 ⟨"TemperCellar", "power", "(JI)J"⟩ ∈ T0 := T0_k5 75 rfl rfl
theorem t1036 : Cond.static ⟨"TemperCellar", "power", "(JI)J"⟩ ∈ T0 := T0_k5 76 rfl rfl
theorem t1037 : Cond.code ⟨"TemperCellar", "power", "(JI)J"⟩ prog_1_method_37_code 6 (some FieldType.long) ∈ T0 := T0_k5 77 rfl rfl
theorem t1038 : Cond.constantLong "TemperCellar" 330 (100 : Int64) ∈ T0 := T0_k5 78 rfl rfl
theorem t1039 : Cond.methodLink "TemperCellar" 332 ⟨"TemperCellar", "commonPart", "(JJ)J"⟩ ∈ T0 := T0_k5 79 rfl rfl
theorem t1040 : Cond.static ⟨"TemperCellar", "commonPart", "(JJ)J"⟩ ∈ T0 := T0_k5 80 rfl rfl
theorem t1041 : Cond.code ⟨"TemperCellar", "commonPart", "(JJ)J"⟩ prog_1_method_38_code 7 (some FieldType.long) ∈ T0 := T0_k5 81 rfl rfl
theorem t1042 : Cond.methodLink "TemperCellarLaw" 137 ⟨"TemperCellar", "see", "(IIZ)I"⟩ ∈ T0 := T0_k5 82 rfl rfl
theorem t1043 : Cond.instanceMethod ⟨"TemperCellar", "see", "(IIZ)I"⟩ ∈ T0 := T0_k5 83 rfl rfl
theorem t1044 : Cond.selects "TemperCellar" ⟨"TemperCellar", "see", "(IIZ)I"⟩ ⟨"TemperCellar", "see", "(IIZ)I"⟩ ∈ T0 := T0_k5 84 rfl rfl
theorem t1045 : Cond.code ⟨"TemperCellar", "see", "(IIZ)I"⟩ prog_1_method_39_code 4 (some FieldType.int) ∈ T0 := T0_k5 85 rfl rfl
theorem t1046 : Cond.methodLink "TemperCellar" 336 ⟨"TemperCellar$Seen", "add", "(IIZ)I"⟩ ∈ T0 := T0_k5 86 rfl rfl
theorem t1047 : Cond.instanceMethod ⟨"TemperCellar$Seen", "add", "(IIZ)I"⟩ ∈ T0 := T0_k5 87 rfl rfl
theorem t1048 : Cond.selects "TemperCellar$Seen" ⟨"TemperCellar$Seen", "add", "(IIZ)I"⟩ ⟨"TemperCellar$Seen", "add", "(IIZ)I"⟩ ∈ T0 := T0_k5 88 rfl rfl
theorem t1049 : Cond.code ⟨"TemperCellar$Seen", "add", "(IIZ)I"⟩ prog_5_method_3_code 4 (some FieldType.int) ∈ T0 := T0_k5 89 rfl rfl
theorem t1050 : Cond.methodLink "TemperCellarLaw" 142 ⟨"TemperCellar", "out", "(I)I"⟩ ∈ T0 := T0_k5 90 rfl rfl
theorem t1051 : Cond.instanceMethod ⟨"TemperCellar", "out", "(I)I"⟩ ∈ T0 := T0_k5 91 rfl rfl
theorem t1052 : Cond.selects "TemperCellar" ⟨"TemperCellar", "out", "(I)I"⟩ ⟨"TemperCellar", "out", "(I)I"⟩ ∈ T0 := T0_k5 92 rfl rfl
theorem t1053 : Cond.code ⟨"TemperCellar", "out", "(I)I"⟩ prog_1_method_40_code 2 (some FieldType.int) ∈ T0 := T0_k5 93 rfl rfl
theorem t1054 : Cond.methodLink "TemperCellar" 342 ⟨"TemperCellar$Seen", "addStrike", "(I)I"⟩ ∈ T0 := T0_k5 94 rfl rfl
theorem t1055 : Cond.instanceMethod ⟨"TemperCellar$Seen", "addStrike", "(I)I"⟩ ∈ T0 := T0_k5 95 rfl rfl
theorem t1056 : Cond.selects "TemperCellar$Seen" ⟨"TemperCellar$Seen", "addStrike", "(I)I"⟩ ⟨"TemperCellar$Seen", "addStrike", "(I)I"⟩ ∈ T0 := T0_k5 96 rfl rfl
theorem t1057 : Cond.code ⟨"TemperCellar$Seen", "addStrike", "(I)I"⟩ prog_5_method_4_code 3 (some FieldType.int) ∈ T0 := T0_k5 97 rfl rfl
theorem t1058 : Cond.methodLink "TemperCellar$Seen" 38 ⟨"TemperCellar$Seen", "add", "(IIZ)I"⟩ ∈ T0 := T0_k5 98 rfl rfl
theorem t1059 : Cond.methodLink "TemperCellarLaw" 146 ⟨"TemperCellar", "known", "(I)Z"⟩ ∈ T0 := T0_k5 99 rfl rfl
theorem t1060 : Cond.instanceMethod ⟨"TemperCellar", "known", "(I)Z"⟩ ∈ T0 := T0_k5 100 rfl rfl
theorem t1061 : Cond.selects "TemperCellar" ⟨"TemperCellar", "known", "(I)Z"⟩ ⟨"TemperCellar", "known", "(I)Z"⟩ ∈ T0 := T0_k5 101 rfl rfl
theorem t1062 : Cond.code ⟨"TemperCellar", "known", "(I)Z"⟩ prog_1_method_41_code 2 (some FieldType.boolean) ∈ T0 := T0_k5 102 rfl rfl
theorem t1063 : Cond.methodLink "TemperCellarLaw" 151 ⟨"TemperCellar", "corks", "(I)I"⟩ ∈ T0 := T0_k5 103 rfl rfl
theorem t1064 : Cond.instanceMethod ⟨"TemperCellar", "corks", "(I)I"⟩ ∈ T0 := T0_k5 104 rfl rfl
theorem t1065 : Cond.selects "TemperCellar" ⟨"TemperCellar", "corks", "(I)I"⟩ ⟨"TemperCellar", "corks", "(I)I"⟩ ∈ T0 := T0_k5 105 rfl rfl
theorem t1066 : Cond.code ⟨"TemperCellar", "corks", "(I)I"⟩ prog_1_method_42_code 5 (some FieldType.int) ∈ T0 := T0_k5 106 rfl rfl
theorem t1067 : Cond.methodLink "TemperCellar" 348 ⟨"TemperCellar$Seen", "markKnown", "()V"⟩ ∈ T0 := T0_k5 107 rfl rfl
theorem t1068 : Cond.instanceMethod ⟨"TemperCellar$Seen", "markKnown", "()V"⟩ ∈ T0 := T0_k5 108 rfl rfl
theorem t1069 : Cond.selects "TemperCellar$Seen" ⟨"TemperCellar$Seen", "markKnown", "()V"⟩ ⟨"TemperCellar$Seen", "markKnown", "()V"⟩ ∈ T0 := T0_k5 109 rfl rfl
theorem t1070 : Cond.code ⟨"TemperCellar$Seen", "markKnown", "()V"⟩ prog_5_method_6_code 4 (none : Option FieldType) ∈ T0 := T0_k5 110 rfl rfl
theorem t1071 : Cond.methodLink "TemperCellar$Seen" 48 ⟨"TemperCellar$Seen", "knownCount", "()I"⟩ ∈ T0 := T0_k5 111 rfl rfl
theorem t1072 : Cond.instanceMethod ⟨"TemperCellar$Seen", "knownCount", "()I"⟩ ∈ T0 := T0_k5 112 rfl rfl
theorem t1073 : Cond.selects "TemperCellar$Seen" ⟨"TemperCellar$Seen", "knownCount", "()I"⟩ ⟨"TemperCellar$Seen", "knownCount", "()I"⟩ ∈ T0 := T0_k5 113 rfl rfl
theorem t1074 : Cond.code ⟨"TemperCellar$Seen", "knownCount", "()I"⟩ prog_5_method_5_code 1 (some FieldType.int) ∈ T0 := T0_k5 114 rfl rfl
theorem t1075 : Cond.methodLink "TemperCellar$Seen" 42 ⟨"java/lang/Math", "min", "(II)I"⟩ ∈ T0 := T0_k5 115 rfl rfl
theorem t1076 : Cond.methodLink "TemperCellar" 351 ⟨"TemperCellar$Seen", "lastKnownYear", "()I"⟩ ∈ T0 := T0_k5 116 rfl rfl
theorem t1077 : Cond.instanceMethod ⟨"TemperCellar$Seen", "lastKnownYear", "()I"⟩ ∈ T0 := T0_k5 117 rfl rfl
theorem t1078 : Cond.selects "TemperCellar$Seen" ⟨"TemperCellar$Seen", "lastKnownYear", "()I"⟩ ⟨"TemperCellar$Seen", "lastKnownYear", "()I"⟩ ∈ T0 := T0_k5 118 rfl rfl
theorem t1079 : Cond.code ⟨"TemperCellar$Seen", "lastKnownYear", "()I"⟩ prog_5_method_7_code 4 (some FieldType.int) ∈ T0 := T0_k5 119 rfl rfl
theorem t1080 : Cond.methodLink "TemperCellar$Seen" 52 ⟨"java/lang/Math", "max", "(II)I"⟩ ∈ T0 := T0_k5 120 rfl rfl
theorem t1081 : Cond.methodLink "TemperCellar" 354 ⟨"TemperCellar", "agreesWithSeen", "(III)Z"⟩ ∈ T0 := T0_k5 121 rfl rfl
theorem t1083 : Cond.instanceMethod ⟨"TemperCellar", "agreesWithSeen", "(III)Z"⟩ ∈ T0 := T0_k5 123 rfl rfl
theorem t1084 : Cond.code ⟨"TemperCellar", "agreesWithSeen", "(III)Z"⟩ prog_1_method_43_code 5 (some FieldType.boolean) ∈ T0 := T0_k5 124 rfl rfl
theorem t1085 : Cond.methodLink "TemperCellar" 357 ⟨"TemperCellar$Seen", "agrees", "(ILTemperCellar$Cellar;)Z"⟩ ∈ T0 := T0_k5 125 rfl rfl
theorem t1086 : Cond.instanceMethod ⟨"TemperCellar$Seen", "agrees", "(ILTemperCellar$Cellar;)Z"⟩ ∈ T0 := T0_k5 126 rfl rfl
theorem t1087 : Cond.selects "TemperCellar$Seen" ⟨"TemperCellar$Seen", "agrees", "(ILTemperCellar$Cellar;)Z"⟩ ⟨"TemperCellar$Seen", "agrees", "(ILTemperCellar$Cellar;)Z"⟩ ∈ T0 := T0_k5 127 rfl rfl
theorem t1088 : Cond.code ⟨"TemperCellar$Seen", "agrees", "(ILTemperCellar$Cellar;)Z"⟩ prog_5_method_8_code 5 (some FieldType.boolean) ∈ T0 := T0_k5 128 rfl rfl
theorem t1089 : Cond.methodLink "TemperCellarLaw" 155 ⟨"TemperCellar", "chance", "(III)I"⟩ ∈ T0 := T0_k5 129 rfl rfl
theorem t1090 : Cond.instanceMethod ⟨"TemperCellar", "chance", "(III)I"⟩ ∈ T0 := T0_k5 130 rfl rfl
theorem t1091 : Cond.selects "TemperCellar" ⟨"TemperCellar", "chance", "(III)I"⟩ ⟨"TemperCellar", "chance", "(III)I"⟩ ∈ T0 := T0_k5 131 rfl rfl
theorem t1092 : Cond.code ⟨"TemperCellar", "chance", "(III)I"⟩ prog_1_method_44_code 8 (some FieldType.int) ∈ T0 := T0_k5 132 rfl rfl
theorem t1093 : Cond.methodLink "TemperCellarLaw" 159 ⟨"TemperCellar", "tried", "(III)I"⟩ ∈ T0 := T0_k5 133 rfl rfl
theorem t1094 : Cond.instanceMethod ⟨"TemperCellar", "tried", "(III)I"⟩ ∈ T0 := T0_k5 134 rfl rfl
theorem t1095 : Cond.selects "TemperCellar" ⟨"TemperCellar", "tried", "(III)I"⟩ ⟨"TemperCellar", "tried", "(III)I"⟩ ∈ T0 := T0_k5 135 rfl rfl
theorem t1096 : Cond.code ⟨"TemperCellar", "tried", "(III)I"⟩ prog_1_method_45_code 4 (some FieldType.int) ∈ T0 := T0_k5 136 rfl rfl
theorem t1097 : Cond.methodLink "TemperCellar" 365 ⟨"java/util/Arrays", "fill", "([II)V"⟩ ∈ T0 := T0_k5 137 rfl rfl
theorem t1098 : Cond.methodLink "TemperCellarLaw" 163 ⟨"TemperCellar", "undo", "()I"⟩ ∈ T0 := T0_k5 138 rfl rfl
theorem t1099 : Cond.instanceMethod ⟨"TemperCellar", "undo", "()I"⟩ ∈ T0 := T0_k5 139 rfl rfl
theorem t1100 : Cond.selects "TemperCellar" ⟨"TemperCellar", "undo", "()I"⟩ ⟨"TemperCellar", "undo", "()I"⟩ ∈ T0 := T0_k5 140 rfl rfl
theorem t1101 : Cond.code ⟨"TemperCellar", "undo", "()I"⟩ prog_1_method_46_code 1 (some FieldType.int) ∈ T0 := T0_k5 141 rfl rfl
theorem t1102 : Cond.methodLink "TemperCellar" 378 ⟨"TemperCellar$Undos", "takeLatest", "(LTemperCellar$Cellar;)V"⟩ ∈ T0 := T0_k5 142 rfl rfl
theorem t1103 : Cond.instanceMethod ⟨"TemperCellar$Undos", "takeLatest", "(LTemperCellar$Cellar;)V"⟩ ∈ T0 := T0_k5 143 rfl rfl
theorem t1104 : Cond.selects "TemperCellar$Undos" ⟨"TemperCellar$Undos", "takeLatest", "(LTemperCellar$Cellar;)V"⟩ ⟨"TemperCellar$Undos", "takeLatest", "(LTemperCellar$Cellar;)V"⟩ ∈ T0 := T0_k5 144 rfl rfl
theorem t1105 : Cond.code ⟨"TemperCellar$Undos", "takeLatest", "(LTemperCellar$Cellar;)V"⟩ prog_9_method_5_code 2 (none : Option FieldType) ∈ T0 := T0_k5 145 rfl rfl
theorem t1106 : Cond.methodLink "TemperCellar$Undos" 34 ⟨"TemperCellar$Cellar", "move", "(II)V"⟩ ∈ T0 := T0_k5 146 rfl rfl
theorem t1107 : Cond.methodLink "TemperCellar$Undos" 43 ⟨"TemperCellar$Cellar", "lie", "(I)V"⟩ ∈ T0 := T0_k5 147 rfl rfl
theorem t1108 : Cond.methodLink "TemperCellarLaw" 167 ⟨"TemperCellar", "keep", "()I"⟩ ∈ T0 := T0_k5 148 rfl rfl
theorem t1109 : Cond.instanceMethod ⟨"TemperCellar", "keep", "()I"⟩ ∈ T0 := T0_k5 149 rfl rfl
theorem t1110 : Cond.selects "TemperCellar" ⟨"TemperCellar", "keep", "()I"⟩ ⟨"TemperCellar", "keep", "()I"⟩ ∈ T0 := T0_k5 150 rfl rfl
theorem t1111 : Cond.code ⟨"TemperCellar", "keep", "()I"⟩ prog_1_method_47_code 1 (some FieldType.int) ∈ T0 := T0_k5 151 rfl rfl
theorem t1112 : Cond.methodLink "TemperCellarLaw" 171 ⟨"TemperCellar", "back", "()I"⟩ ∈ T0 := T0_k5 152 rfl rfl
theorem t1113 : Cond.instanceMethod ⟨"TemperCellar", "back", "()I"⟩ ∈ T0 := T0_k5 153 rfl rfl
theorem t1114 : Cond.selects "TemperCellar" ⟨"TemperCellar", "back", "()I"⟩ ⟨"TemperCellar", "back", "()I"⟩ ∈ T0 := T0_k5 154 rfl rfl
theorem t1115 : Cond.code ⟨"TemperCellar", "back", "()I"⟩ prog_1_method_48_code 1 (some FieldType.int) ∈ T0 := T0_k5 155 rfl rfl
theorem t1116 : Cond.methodLink "TemperCellarLaw" 175 ⟨"TemperCellar", "count", "(I)I"⟩ ∈ T0 := T0_k5 156 rfl rfl
theorem t1117 : Cond.instanceMethod ⟨"TemperCellar", "count", "(I)I"⟩ ∈ T0 := T0_k5 157 rfl rfl
theorem t1118 : Cond.selects "TemperCellar" ⟨"TemperCellar", "count", "(I)I"⟩ ⟨"TemperCellar", "count", "(I)I"⟩ ∈ T0 := T0_k5 158 rfl rfl
theorem t1119 : Cond.code ⟨"TemperCellar", "count", "(I)I"⟩ prog_1_method_49_code 2 (some FieldType.int) ∈ T0 := T0_k5 159 rfl rfl
theorem t1120 : Cond.methodLink "TemperCellar" 403 ⟨"TemperCellar$Seen", "knownCount", "()I"⟩ ∈ T0 := T0_k5 160 rfl rfl
theorem t1121 : Cond.methodLink "TemperCellarLaw" 39 ⟨"TemperCellarLaw", "bottle", "(LTemperCellar;II[J)I"⟩ ∈ T0 := T0_k5 161 rfl rfl
theorem t1122 : Cond.static ⟨"TemperCellarLaw", "bottle", "(LTemperCellar;II[J)I"⟩ ∈ T0 := T0_k5 162 rfl rfl
theorem t1124 : Cond.classLink "TemperCellarLaw" 13 "java/lang/IndexOutOfBoundsException" ∈ T0 := T0_k5 164 rfl rfl
theorem t1125 : Cond.classLink "TemperCellarLaw" 15 "java/util/NoSuchElementException" ∈ T0 := T0_k5 165 rfl rfl
theorem t1126 : Cond.methodLink "TemperCellarLaw" 7 ⟨"TemperCellar", "bottle", "(II)I"⟩ ∈ T0 := T0_k5 166 rfl rfl
theorem t1127 : Cond.instanceMethod ⟨"TemperCellar", "bottle", "(II)I"⟩ ∈ T0 := T0_k5 167 rfl rfl
theorem t1128 : Cond.selects "TemperCellar" ⟨"TemperCellar", "bottle", "(II)I"⟩ ⟨"TemperCellar", "bottle", "(II)I"⟩ ∈ T0 := T0_k5 168 rfl rfl
theorem t1129 : Cond.code ⟨"TemperCellar", "bottle", "(II)I"⟩ prog_1_method_7_code 3 (some FieldType.int) ∈ T0 := T0_k5 169 rfl rfl
theorem t1130 : Cond.classLink "TemperCellar" 134 "java/lang/IndexOutOfBoundsException" ∈ T0 := T0_k5 170 rfl rfl
theorem t1131 : Cond.instantiable "java/lang/IndexOutOfBoundsException" 6 ∈ T0 := T0_k5 171 rfl rfl
theorem t1139 : Cond.selects "java/lang/IndexOutOfBoundsException" ⟨"java/lang/Throwable", "fillInStackTrace", "(I)Ljava/lang/Throwable;"⟩ ⟨"java/lang/Throwable", "fillInStackTrace", "(I)Ljava/lang/Throwable;"⟩ ∈ T0 := T0_k5 179 rfl rfl
theorem t1140 : Cond.selects "java/lang/IndexOutOfBoundsException" ⟨"java/lang/Throwable", "fillInStackTrace", "()Ljava/lang/Throwable;"⟩ ⟨"java/lang/Throwable", "fillInStackTrace", "()Ljava/lang/Throwable;"⟩ ∈ T0 := T0_k5 180 rfl rfl
theorem t1151 : Cond.fieldLink "java/lang/Throwable" 198 "java/lang/Throwable" "backtrace" "Ljava/lang/Object;" ∈ T0 := T0_k5 191 rfl rfl
theorem t1153 : Cond.instanceMethod ⟨"java/lang/Throwable", "<init>", "()V"⟩ ∈ T0 := T0_k5 193 rfl rfl
theorem t1154 : Cond.code ⟨"java/lang/Throwable", "<init>", "()V"⟩ prog_25_method_1_code 1 (none : Option FieldType) ∈ T0 := T0_k5 194 rfl rfl
theorem t1155 : Cond.methodLink "java/lang/Throwable" 1 ⟨"java/lang/Object", "<init>", "()V"⟩ ∈ T0 := T0_k5 195 rfl rfl
theorem t1156 : Cond.fieldLink "java/lang/Throwable" 13 "java/lang/Throwable" "UNASSIGNED_STACK" "[Ljava/lang/StackTraceElement;" ∈ T0 := T0_k5 196 rfl rfl
theorem t1158 : Cond.fieldLink "java/lang/Throwable" 20 "java/lang/Throwable" "SUPPRESSED_SENTINEL" "Ljava/util/List;" ∈ T0 := T0_k5 198 rfl rfl
theorem t1160 : Cond.methodLink "java/lang/Throwable" 27 ⟨"java/lang/Throwable", "fillInStackTrace", "()Ljava/lang/Throwable;"⟩ ∈ T0 := T0_k5 200 rfl rfl
theorem t1161 : Cond.instanceMethod ⟨"java/lang/Throwable", "fillInStackTrace", "()Ljava/lang/Throwable;"⟩ ∈ T0 := T0_k5 201 rfl rfl
theorem t1163 : Cond.selects "java/util/NoSuchElementException" ⟨"java/lang/Throwable", "fillInStackTrace", "()Ljava/lang/Throwable;"⟩ ⟨"java/lang/Throwable", "fillInStackTrace", "()Ljava/lang/Throwable;"⟩ ∈ T0 := T0_k5 203 rfl rfl
theorem t1165 : Cond.methodLink "java/lang/Throwable" 202 ⟨"java/lang/Throwable", "fillInStackTrace", "(I)Ljava/lang/Throwable;"⟩ ∈ T0 := T0_k5 205 rfl rfl
theorem t1167 : Cond.instanceMethod ⟨"java/lang/Throwable", "fillInStackTrace", "(I)Ljava/lang/Throwable;"⟩ ∈ T0 := T0_k5 207 rfl rfl
theorem t1168 : Cond.instantiable "java/lang/Throwable" 6 ∈ T0 := T0_k5 208 rfl rfl
theorem t1169 : Cond.native ⟨"java/lang/Throwable", "fillInStackTrace", "(I)Ljava/lang/Throwable;"⟩ ∈ T0 := T0_k5 209 rfl rfl
theorem t1171 : Cond.methodLink "TemperCellar" 138 ⟨"java/lang/IndexOutOfBoundsException", "<init>", "(Ljava/lang/String;)V"⟩ ∈ T0 := T0_k5 211 rfl rfl
theorem t1172 : Cond.instanceMethod ⟨"java/lang/IndexOutOfBoundsException", "<init>", "(Ljava/lang/String;)V"⟩ ∈ T0 := T0_k5 212 rfl rfl
theorem t1173 : Cond.code ⟨"java/lang/IndexOutOfBoundsException", "<init>", "(Ljava/lang/String;)V"⟩ prog_17_method_2_code 2 (none : Option FieldType) ∈ T0 := T0_k5 213 rfl rfl
theorem t1174 : Cond.methodLink "java/lang/IndexOutOfBoundsException" 7 ⟨"java/lang/RuntimeException", "<init>", "(Ljava/lang/String;)V"⟩ ∈ T0 := T0_k5 214 rfl rfl
theorem t1175 : Cond.instanceMethod ⟨"java/lang/RuntimeException", "<init>", "(Ljava/lang/String;)V"⟩ ∈ T0 := T0_k5 215 rfl rfl
theorem t1176 : Cond.code ⟨"java/lang/RuntimeException", "<init>", "(Ljava/lang/String;)V"⟩ prog_20_method_2_code 2 (none : Option FieldType) ∈ T0 := T0_k5 216 rfl rfl
theorem t1177 : Cond.methodLink "java/lang/RuntimeException" 7 ⟨"java/lang/Exception", "<init>", "(Ljava/lang/String;)V"⟩ ∈ T0 := T0_k5 217 rfl rfl
theorem t1178 : Cond.instanceMethod ⟨"java/lang/Exception", "<init>", "(Ljava/lang/String;)V"⟩ ∈ T0 := T0_k5 218 rfl rfl
theorem t1179 : Cond.code ⟨"java/lang/Exception", "<init>", "(Ljava/lang/String;)V"⟩ prog_16_method_2_code 2 (none : Option FieldType) ∈ T0 := T0_k5 219 rfl rfl
theorem t1180 : Cond.methodLink "java/lang/Exception" 7 ⟨"java/lang/Throwable", "<init>", "(Ljava/lang/String;)V"⟩ ∈ T0 := T0_k5 220 rfl rfl
theorem t1181 : Cond.instanceMethod ⟨"java/lang/Throwable", "<init>", "(Ljava/lang/String;)V"⟩ ∈ T0 := T0_k5 221 rfl rfl
theorem t1182 : Cond.code ⟨"java/lang/Throwable", "<init>", "(Ljava/lang/String;)V"⟩ prog_25_method_2_code 2 (none : Option FieldType) ∈ T0 := T0_k5 222 rfl rfl
theorem t1184 : Cond.fieldLink "java/lang/Throwable" 31 "java/lang/Throwable" "detailMessage" "Ljava/lang/String;" ∈ T0 := T0_k5 224 rfl rfl
theorem t1185 : Cond.fieldLink "java/lang/Throwable" 7 "java/lang/Throwable" "cause" "Ljava/lang/Throwable;" ∈ T0 := T0_k5 225 rfl rfl
theorem t1186 : Cond.fieldLink "java/lang/Throwable" 17 "java/lang/Throwable" "stackTrace" "[Ljava/lang/StackTraceElement;" ∈ T0 := T0_k5 226 rfl rfl
theorem t1187 : Cond.fieldLink "java/lang/Throwable" 24 "java/lang/Throwable" "suppressedExceptions" "Ljava/util/List;" ∈ T0 := T0_k5 227 rfl rfl
theorem t1196 : Cond.classLink "TemperCellar" 162 "java/util/NoSuchElementException" ∈ T0 := T0_k5 236 rfl rfl
theorem t1197 : Cond.instantiable "java/util/NoSuchElementException" 6 ∈ T0 := T0_k5 237 rfl rfl
theorem t1199 : Cond.selects "java/util/NoSuchElementException" ⟨"java/lang/Throwable", "fillInStackTrace", "(I)Ljava/lang/Throwable;"⟩ ⟨"java/lang/Throwable", "fillInStackTrace", "(I)Ljava/lang/Throwable;"⟩ ∈ T0 := T0_k5 239 rfl rfl
theorem t1206 : Cond.methodLink "TemperCellar" 166 ⟨"java/util/NoSuchElementException", "<init>", "(Ljava/lang/String;)V"⟩ ∈ T0 := T0_k6 6 rfl rfl
theorem t1207 : Cond.instanceMethod ⟨"java/util/NoSuchElementException", "<init>", "(Ljava/lang/String;)V"⟩ ∈ T0 := T0_k6 7 rfl rfl
theorem t1208 : Cond.code ⟨"java/util/NoSuchElementException", "<init>", "(Ljava/lang/String;)V"⟩ prog_29_method_4_code 2 (none : Option FieldType) ∈ T0 := T0_k6 8 rfl rfl
theorem t1209 : Cond.methodLink "java/util/NoSuchElementException" 13 ⟨"java/lang/RuntimeException", "<init>", "(Ljava/lang/String;)V"⟩ ∈ T0 := T0_k6 9 rfl rfl
theorem t1212 : Cond.classLink "TemperCellarLaw" 18 "TemperCellarModel" ∈ T0 := T0_k6 12 rfl rfl
theorem t1213 : Cond.instantiable "TemperCellarModel" 64 ∈ T0 := T0_k6 13 rfl rfl
theorem t1214 : Cond.methodLink "TemperCellarLaw" 20 ⟨"TemperCellarModel", "<init>", "()V"⟩ ∈ T0 := T0_k6 14 rfl rfl
theorem t1215 : Cond.instanceMethod ⟨"TemperCellarModel", "<init>", "()V"⟩ ∈ T0 := T0_k6 15 rfl rfl
theorem t1216 : Cond.code ⟨"TemperCellarModel", "<init>", "()V"⟩ prog_12_method_1_code 1 (none : Option FieldType) ∈ T0 := T0_k6 16 rfl rfl
theorem t1217 : Cond.methodLink "TemperCellarModel" 1 ⟨"java/lang/Object", "<init>", "()V"⟩ ∈ T0 := T0_k6 17 rfl rfl
theorem t1218 : Cond.methodLink "TemperCellarModel" 136 ⟨"TemperCellarModel", "begins", "()V"⟩ ∈ T0 := T0_k6 18 rfl rfl
theorem t1220 : Cond.instanceMethod ⟨"TemperCellarModel", "begins", "()V"⟩ ∈ T0 := T0_k6 20 rfl rfl
theorem t1221 : Cond.code ⟨"TemperCellarModel", "begins", "()V"⟩ prog_12_method_43_code 1 (none : Option FieldType) ∈ T0 := T0_k6 21 rfl rfl
theorem t1222 : Cond.methodLink "TemperCellarModel" 325 ⟨"TemperCellarModel", "starts", "(I)V"⟩ ∈ T0 := T0_k6 22 rfl rfl
theorem t1224 : Cond.instanceMethod ⟨"TemperCellarModel", "starts", "(I)V"⟩ ∈ T0 := T0_k6 24 rfl rfl
theorem t1225 : Cond.code ⟨"TemperCellarModel", "starts", "(I)V"⟩ prog_12_method_42_code 5 (none : Option FieldType) ∈ T0 := T0_k6 25 rfl rfl
theorem t1226 : Cond.fieldLink "TemperCellarModel" 139 "TemperCellarModel" "thrown" "I" ∈ T0 := T0_k6 26 rfl rfl
theorem t1227 : Cond.fieldLink "TemperCellarModel" 7 "TemperCellarModel" "tape" "[I" ∈ T0 := T0_k6 27 rfl rfl
theorem t1228 : Cond.fieldLink "TemperCellarModel" 142 "TemperCellarModel" "taped" "I" ∈ T0 := T0_k6 28 rfl rfl
theorem t1229 : Cond.fieldLink "TemperCellarModel" 13 "TemperCellarModel" "number" "[I" ∈ T0 := T0_k6 29 rfl rfl
theorem t1230 : Cond.fieldLink "TemperCellarModel" 16 "TemperCellarModel" "manName" "[I" ∈ T0 := T0_k6 30 rfl rfl
theorem t1231 : Cond.fieldLink "TemperCellarModel" 19 "TemperCellarModel" "hotOf" "[I" ∈ T0 := T0_k6 31 rfl rfl
theorem t1232 : Cond.fieldLink "TemperCellarModel" 22 "TemperCellarModel" "bottleName" "[I" ∈ T0 := T0_k6 32 rfl rfl
theorem t1233 : Cond.fieldLink "TemperCellarModel" 25 "TemperCellarModel" "ownerOf" "[I" ∈ T0 := T0_k6 33 rfl rfl
theorem t1234 : Cond.fieldLink "TemperCellarModel" 28 "TemperCellarModel" "atOf" "[I" ∈ T0 := T0_k6 34 rfl rfl
theorem t1235 : Cond.fieldLink "TemperCellarModel" 31 "TemperCellarModel" "binAs" "[I" ∈ T0 := T0_k6 35 rfl rfl
theorem t1236 : Cond.fieldLink "TemperCellarModel" 34 "TemperCellarModel" "forceAs" "[I" ∈ T0 := T0_k6 36 rfl rfl
theorem t1237 : Cond.fieldLink "TemperCellarModel" 37 "TemperCellarModel" "corkAs" "[I" ∈ T0 := T0_k6 37 rfl rfl
theorem t1238 : Cond.fieldLink "TemperCellarModel" 40 "TemperCellarModel" "needMan" "[I" ∈ T0 := T0_k6 38 rfl rfl
theorem t1239 : Cond.fieldLink "TemperCellarModel" 43 "TemperCellarModel" "needYear" "[I" ∈ T0 := T0_k6 39 rfl rfl
theorem t1240 : Cond.fieldLink "TemperCellarModel" 46 "TemperCellarModel" "needFrom" "[I" ∈ T0 := T0_k6 40 rfl rfl
theorem t1241 : Cond.fieldLink "TemperCellarModel" 49 "TemperCellarModel" "needTo" "[I" ∈ T0 := T0_k6 41 rfl rfl
theorem t1242 : Cond.fieldLink "TemperCellarModel" 52 "TemperCellarModel" "sumFrom" "[I" ∈ T0 := T0_k6 42 rfl rfl
theorem t1243 : Cond.fieldLink "TemperCellarModel" 55 "TemperCellarModel" "sumTo" "[I" ∈ T0 := T0_k6 43 rfl rfl
theorem t1244 : Cond.fieldLink "TemperCellarModel" 58 "TemperCellarModel" "knotSort" "[I" ∈ T0 := T0_k6 44 rfl rfl
theorem t1245 : Cond.fieldLink "TemperCellarModel" 61 "TemperCellarModel" "knotValue" "[I" ∈ T0 := T0_k6 45 rfl rfl
theorem t1246 : Cond.fieldLink "TemperCellarModel" 222 "TemperCellarModel" "told" "I" ∈ T0 := T0_k6 46 rfl rfl
theorem t1247 : Cond.fieldLink "TemperCellarModel" 249 "TemperCellarModel" "lines" "I" ∈ T0 := T0_k6 47 rfl rfl
theorem t1248 : Cond.fieldLink "TemperCellarModel" 148 "TemperCellarModel" "size" "I" ∈ T0 := T0_k6 48 rfl rfl
theorem t1249 : Cond.fieldLink "TemperCellarModel" 145 "TemperCellarModel" "at" "I" ∈ T0 := T0_k6 49 rfl rfl
theorem t1250 : Cond.fieldLink "TemperCellarModel" 155 "TemperCellarModel" "place" "I" ∈ T0 := T0_k6 50 rfl rfl
theorem t1251 : Cond.fieldLink "TemperCellarModel" 158 "TemperCellarModel" "sort" "I" ∈ T0 := T0_k6 51 rfl rfl
theorem t1252 : Cond.fieldLink "TemperCellarModel" 168 "TemperCellarModel" "value" "I" ∈ T0 := T0_k6 52 rfl rfl
theorem t1253 : Cond.fieldLink "TemperCellarModel" 193 "TemperCellarModel" "fault" "I" ∈ T0 := T0_k6 53 rfl rfl
theorem t1254 : Cond.fieldLink "TemperCellarModel" 196 "TemperCellarModel" "faultPlace" "I" ∈ T0 := T0_k6 54 rfl rfl
theorem t1255 : Cond.fieldLink "TemperCellarModel" 288 "TemperCellarModel" "lastFault" "I" ∈ T0 := T0_k6 55 rfl rfl
theorem t1256 : Cond.fieldLink "TemperCellarModel" 64 "TemperCellarModel" "lastPlace" "I" ∈ T0 := T0_k6 56 rfl rfl
theorem t1257 : Cond.fieldLink "TemperCellarModel" 282 "TemperCellarModel" "open" "I" ∈ T0 := T0_k6 57 rfl rfl
theorem t1258 : Cond.fieldLink "TemperCellarModel" 255 "TemperCellarModel" "counted" "I" ∈ T0 := T0_k6 58 rfl rfl
theorem t1259 : Cond.fieldLink "TemperCellarModel" 68 "TemperCellarModel" "names" "[J" ∈ T0 := T0_k6 59 rfl rfl
theorem t1260 : Cond.fieldLink "TemperCellarModel" 72 "TemperCellarModel" "worked" "[J" ∈ T0 := T0_k6 60 rfl rfl
theorem t1261 : Cond.fieldLink "TemperCellarModel" 305 "TemperCellarModel" "workedMany" "I" ∈ T0 := T0_k6 61 rfl rfl
theorem t1262 : Cond.fieldLink "TemperCellarModel" 75 "TemperCellarModel" "year" "[I" ∈ T0 := T0_k6 62 rfl rfl
theorem t1263 : Cond.fieldLink "TemperCellarModel" 78 "TemperCellarModel" "drawn" "[I" ∈ T0 := T0_k6 63 rfl rfl
theorem t1264 : Cond.fieldLink "TemperCellarModel" 81 "TemperCellarModel" "thunders" "[I" ∈ T0 := T0_k6 64 rfl rfl
theorem t1265 : Cond.fieldLink "TemperCellarModel" 84 "TemperCellarModel" "hates" "[I" ∈ T0 := T0_k6 65 rfl rfl
theorem t1266 : Cond.fieldLink "TemperCellarModel" 87 "TemperCellarModel" "forceOf" "[I" ∈ T0 := T0_k6 66 rfl rfl
theorem t1267 : Cond.fieldLink "TemperCellarModel" 90 "TemperCellarModel" "corkOf" "[I" ∈ T0 := T0_k6 67 rfl rfl
theorem t1268 : Cond.fieldLink "TemperCellarModel" 93 "TemperCellarModel" "binOf" "[I" ∈ T0 := T0_k6 68 rfl rfl
theorem t1269 : Cond.fieldLink "TemperCellarModel" 96 "TemperCellarModel" "howOf" "[I" ∈ T0 := T0_k6 69 rfl rfl
theorem t1270 : Cond.fieldLink "TemperCellarModel" 99 "TemperCellarModel" "openedBy" "[I" ∈ T0 := T0_k6 70 rfl rfl
theorem t1271 : Cond.fieldLink "TemperCellarModel" 102 "TemperCellarModel" "outcome" "[I" ∈ T0 := T0_k6 71 rfl rfl
theorem t1272 : Cond.fieldLink "TemperCellarModel" 298 "TemperCellarModel" "hasImage" "Z" ∈ T0 := T0_k6 72 rfl rfl
theorem t1273 : Cond.fieldLink "TemperCellarModel" 302 "TemperCellarModel" "undoMany" "I" ∈ T0 := T0_k6 73 rfl rfl
theorem t1274 : Cond.fieldLink "TemperCellarModel" 356 "TemperCellarModel" "tryWhat" "I" ∈ T0 := T0_k6 74 rfl rfl
theorem t1275 : Cond.fieldLink "TemperCellarModel" 105 "TemperCellarModel" "queue" "[I" ∈ T0 := T0_k6 75 rfl rfl
theorem t1276 : Cond.fieldLink "TemperCellarModel" 108 "TemperCellarModel" "racked" "[I" ∈ T0 := T0_k6 76 rfl rfl
theorem t1277 : Cond.fieldLink "TemperCellarModel" 444 "TemperCellarModel" "rackedMany" "I" ∈ T0 := T0_k6 77 rfl rfl
theorem t1278 : Cond.fieldLink "TemperCellarModel" 447 "TemperCellarModel" "rackLeast" "I" ∈ T0 := T0_k6 78 rfl rfl
theorem t1279 : Cond.fieldLink "TemperCellarModel" 450 "TemperCellarModel" "rackCode" "I" ∈ T0 := T0_k6 79 rfl rfl
theorem t1280 : Cond.fieldLink "TemperCellarModel" 111 "TemperCellarModel" "toCome" "[I" ∈ T0 := T0_k6 80 rfl rfl
theorem t1281 : Cond.fieldLink "TemperCellarModel" 456 "TemperCellarModel" "comeMany" "I" ∈ T0 := T0_k6 81 rfl rfl
theorem t1282 : Cond.fieldLink "TemperCellarModel" 114 "TemperCellarModel" "canServe" "[I" ∈ T0 := T0_k6 82 rfl rfl
theorem t1283 : Cond.fieldLink "TemperCellarModel" 295 "TemperCellarModel" "notes" "I" ∈ T0 := T0_k6 83 rfl rfl
theorem t1284 : Cond.fieldLink "TemperCellarModel" 117 "TemperCellarModel" "knownBy" "I" ∈ T0 := T0_k6 84 rfl rfl
theorem t1285 : Cond.fieldLink "TemperCellarModel" 120 "TemperCellarModel" "noteYears" "[I" ∈ T0 := T0_k6 85 rfl rfl
theorem t1286 : Cond.fieldLink "TemperCellarModel" 123 "TemperCellarModel" "noteBottle" "[I" ∈ T0 := T0_k6 86 rfl rfl
theorem t1287 : Cond.fieldLink "TemperCellarModel" 126 "TemperCellarModel" "noteOff" "[Z" ∈ T0 := T0_k6 87 rfl rfl
theorem t1288 : Cond.fieldLink "TemperCellarModel" 130 "TemperCellarModel" "outs" "[I" ∈ T0 := T0_k6 88 rfl rfl
theorem t1289 : Cond.fieldLink "TemperCellarModel" 133 "TemperCellarModel" "isOut" "[Z" ∈ T0 := T0_k6 89 rfl rfl
theorem t1419 : Cond.methodLink "TemperCellarLaw" 45 ⟨"TemperCellarModel", "thrown", "()I"⟩ ∈ T0 := T0_k6 219 rfl rfl
theorem t1420 : Cond.instanceMethod ⟨"TemperCellarModel", "thrown", "()I"⟩ ∈ T0 := T0_k6 220 rfl rfl
theorem t1421 : Cond.selects "TemperCellarModel" ⟨"TemperCellarModel", "thrown", "()I"⟩ ⟨"TemperCellarModel", "thrown", "()I"⟩ ∈ T0 := T0_k6 221 rfl rfl
theorem t1422 : Cond.code ⟨"TemperCellarModel", "thrown", "()I"⟩ prog_12_method_2_code 1 (some FieldType.int) ∈ T0 := T0_k6 222 rfl rfl
theorem t1423 : Cond.methodLink "TemperCellarLaw" 25 ⟨"TemperCellarModel", "feed", "(IIIII)I"⟩ ∈ T0 := T0_k6 223 rfl rfl
theorem t1424 : Cond.instanceMethod ⟨"TemperCellarModel", "feed", "(IIIII)I"⟩ ∈ T0 := T0_k6 224 rfl rfl
theorem t1425 : Cond.selects "TemperCellarModel" ⟨"TemperCellarModel", "feed", "(IIIII)I"⟩ ⟨"TemperCellarModel", "feed", "(IIIII)I"⟩ ∈ T0 := T0_k6 225 rfl rfl
theorem t1426 : Cond.code ⟨"TemperCellarModel", "feed", "(IIIII)I"⟩ prog_12_method_3_code 8 (some FieldType.int) ∈ T0 := T0_k6 226 rfl rfl
theorem t1427 : Cond.methodLink "TemperCellarLaw" 30 ⟨"TemperCellarModel", "text", "(I)I"⟩ ∈ T0 := T0_k6 227 rfl rfl
theorem t1428 : Cond.instanceMethod ⟨"TemperCellarModel", "text", "(I)I"⟩ ∈ T0 := T0_k6 228 rfl rfl
theorem t1429 : Cond.selects "TemperCellarModel" ⟨"TemperCellarModel", "text", "(I)I"⟩ ⟨"TemperCellarModel", "text", "(I)I"⟩ ∈ T0 := T0_k6 229 rfl rfl
theorem t1430 : Cond.code ⟨"TemperCellarModel", "text", "(I)I"⟩ prog_12_method_35_code 3 (some FieldType.int) ∈ T0 := T0_k6 230 rfl rfl
theorem t1431 : Cond.methodLink "TemperCellarModel" 233 ⟨"TemperCellarModel", "reads", "(II)V"⟩ ∈ T0 := T0_k6 231 rfl rfl
theorem t1433 : Cond.instanceMethod ⟨"TemperCellarModel", "reads", "(II)V"⟩ ∈ T0 := T0_k6 233 rfl rfl
theorem t1434 : Cond.code ⟨"TemperCellarModel", "reads", "(II)V"⟩ prog_12_method_19_code 3 (none : Option FieldType) ∈ T0 := T0_k6 234 rfl rfl
theorem t1435 : Cond.methodLink "TemperCellarModel" 199 ⟨"TemperCellarModel", "token", "()V"⟩ ∈ T0 := T0_k6 235 rfl rfl
theorem t1437 : Cond.instanceMethod ⟨"TemperCellarModel", "token", "()V"⟩ ∈ T0 := T0_k6 237 rfl rfl
theorem t1438 : Cond.code ⟨"TemperCellarModel", "token", "()V"⟩ prog_12_method_7_code 2 (none : Option FieldType) ∈ T0 := T0_k6 238 rfl rfl
theorem t1439 : Cond.methodLink "TemperCellarModel" 151 ⟨"TemperCellarModel", "here", "()I"⟩ ∈ T0 := T0_k6 239 rfl rfl
theorem t1441 : Cond.instanceMethod ⟨"TemperCellarModel", "here", "()I"⟩ ∈ T0 := T0_k7 1 rfl rfl
theorem t1442 : Cond.code ⟨"TemperCellarModel", "here", "()I"⟩ prog_12_method_4_code 1 (some FieldType.int) ∈ T0 := T0_k7 2 rfl rfl
theorem t1443 : Cond.methodLink "TemperCellarModel" 161 ⟨"TemperCellarModel", "isSmall", "(I)Z"⟩ ∈ T0 := T0_k7 3 rfl rfl
theorem t1444 : Cond.static ⟨"TemperCellarModel", "isSmall", "(I)Z"⟩ ∈ T0 := T0_k7 4 rfl rfl
theorem t1445 : Cond.code ⟨"TemperCellarModel", "isSmall", "(I)Z"⟩ prog_12_method_5_code 1 (some FieldType.boolean) ∈ T0 := T0_k7 5 rfl rfl
theorem t1446 : Cond.methodLink "TemperCellarModel" 165 ⟨"TemperCellarModel", "word", "()I"⟩ ∈ T0 := T0_k7 6 rfl rfl
theorem t1448 : Cond.instanceMethod ⟨"TemperCellarModel", "word", "()I"⟩ ∈ T0 := T0_k7 8 rfl rfl
theorem t1449 : Cond.code ⟨"TemperCellarModel", "word", "()I"⟩ prog_12_method_9_code 4 (some FieldType.int) ∈ T0 := T0_k7 9 rfl rfl
theorem t1451 : Cond.methodLink "TemperCellarModel" 184 ⟨"java/lang/String", "length", "()I"⟩ ∈ T0 := T0_k7 11 rfl rfl
theorem t1452 : Cond.methodLink "TemperCellarModel" 189 ⟨"java/lang/String", "charAt", "(I)C"⟩ ∈ T0 := T0_k7 12 rfl rfl
theorem t1453 : Cond.methodLink "TemperCellarModel" 171 ⟨"TemperCellarModel", "name", "()V"⟩ ∈ T0 := T0_k7 13 rfl rfl
theorem t1455 : Cond.instanceMethod ⟨"TemperCellarModel", "name", "()V"⟩ ∈ T0 := T0_k7 15 rfl rfl
theorem t1456 : Cond.code ⟨"TemperCellarModel", "name", "()V"⟩ prog_12_method_10_code 2 (none : Option FieldType) ∈ T0 := T0_k7 16 rfl rfl
theorem t1457 : Cond.methodLink "TemperCellarModel" 174 ⟨"TemperCellarModel", "isDigit", "(I)Z"⟩ ∈ T0 := T0_k7 17 rfl rfl
theorem t1458 : Cond.static ⟨"TemperCellarModel", "isDigit", "(I)Z"⟩ ∈ T0 := T0_k7 18 rfl rfl
theorem t1459 : Cond.code ⟨"TemperCellarModel", "isDigit", "(I)Z"⟩ prog_12_method_6_code 1 (some FieldType.boolean) ∈ T0 := T0_k7 19 rfl rfl
theorem t1460 : Cond.constant "TemperCellarModel" 177 (99999 : Int32) ∈ T0 := T0_k7 20 rfl rfl
theorem t1461 : Cond.methodLink "TemperCellarModel" 178 ⟨"TemperCellarModel", "sign", "(I)V"⟩ ∈ T0 := T0_k7 21 rfl rfl
theorem t1463 : Cond.instanceMethod ⟨"TemperCellarModel", "sign", "(I)V"⟩ ∈ T0 := T0_k7 23 rfl rfl
theorem t1464 : Cond.code ⟨"TemperCellarModel", "sign", "(I)V"⟩ prog_12_method_8_code 2 (none : Option FieldType) ∈ T0 := T0_k7 24 rfl rfl
theorem t1465 : Cond.methodLink "TemperCellarModel" 285 ⟨"TemperCellarModel", "line", "()V"⟩ ∈ T0 := T0_k7 25 rfl rfl
theorem t1467 : Cond.instanceMethod ⟨"TemperCellarModel", "line", "()V"⟩ ∈ T0 := T0_k7 27 rfl rfl
theorem t1468 : Cond.code ⟨"TemperCellarModel", "line", "()V"⟩ prog_12_method_23_code 4 (none : Option FieldType) ∈ T0 := T0_k7 28 rfl rfl
theorem t1469 : Cond.methodLink "TemperCellarModel" 202 ⟨"TemperCellarModel", "wrong", "(I)V"⟩ ∈ T0 := T0_k7 29 rfl rfl
theorem t1471 : Cond.instanceMethod ⟨"TemperCellarModel", "wrong", "(I)V"⟩ ∈ T0 := T0_k7 31 rfl rfl
theorem t1472 : Cond.code ⟨"TemperCellarModel", "wrong", "(I)V"⟩ prog_12_method_11_code 2 (none : Option FieldType) ∈ T0 := T0_k7 32 rfl rfl
theorem t1473 : Cond.methodLink "TemperCellarModel" 219 ⟨"TemperCellarModel", "isFull", "(I)Z"⟩ ∈ T0 := T0_k7 33 rfl rfl
theorem t1475 : Cond.instanceMethod ⟨"TemperCellarModel", "isFull", "(I)Z"⟩ ∈ T0 := T0_k7 35 rfl rfl
theorem t1476 : Cond.code ⟨"TemperCellarModel", "isFull", "(I)Z"⟩ prog_12_method_22_code 2 (some FieldType.boolean) ∈ T0 := T0_k7 36 rfl rfl
theorem t1477 : Cond.methodLink "TemperCellarModel" 209 ⟨"TemperCellarModel", "fresher", "(I)I"⟩ ∈ T0 := T0_k7 37 rfl rfl
theorem t1479 : Cond.instanceMethod ⟨"TemperCellarModel", "fresher", "(I)I"⟩ ∈ T0 := T0_k7 39 rfl rfl
theorem t1480 : Cond.code ⟨"TemperCellarModel", "fresher", "(I)I"⟩ prog_12_method_18_code 2 (some FieldType.int) ∈ T0 := T0_k7 40 rfl rfl
theorem t1481 : Cond.methodLink "TemperCellarModel" 225 ⟨"TemperCellarModel", "fresh", "([III)I"⟩ ∈ T0 := T0_k7 41 rfl rfl
theorem t1483 : Cond.instanceMethod ⟨"TemperCellarModel", "fresh", "([III)I"⟩ ∈ T0 := T0_k7 43 rfl rfl
theorem t1484 : Cond.code ⟨"TemperCellarModel", "fresh", "([III)I"⟩ prog_12_method_17_code 5 (some FieldType.int) ∈ T0 := T0_k7 44 rfl rfl
theorem t1485 : Cond.methodLink "TemperCellarModel" 205 ⟨"TemperCellarModel", "found", "([IIII)I"⟩ ∈ T0 := T0_k7 45 rfl rfl
theorem t1486 : Cond.static ⟨"TemperCellarModel", "found", "([IIII)I"⟩ ∈ T0 := T0_k7 46 rfl rfl
theorem t1487 : Cond.code ⟨"TemperCellarModel", "found", "([IIII)I"⟩ prog_12_method_16_code 5 (some FieldType.int) ∈ T0 := T0_k7 47 rfl rfl
theorem t1488 : Cond.methodLink "TemperCellarModel" 229 ⟨"TemperCellarModel", "numeral", "(II)I"⟩ ∈ T0 := T0_k7 48 rfl rfl
theorem t1490 : Cond.instanceMethod ⟨"TemperCellarModel", "numeral", "(II)I"⟩ ∈ T0 := T0_k7 50 rfl rfl
theorem t1491 : Cond.code ⟨"TemperCellarModel", "numeral", "(II)I"⟩ prog_12_method_15_code 4 (some FieldType.int) ∈ T0 := T0_k7 51 rfl rfl
theorem t1492 : Cond.methodLink "TemperCellarModel" 237 ⟨"TemperCellarModel", "bottleLine", "(I)V"⟩ ∈ T0 := T0_k7 52 rfl rfl
theorem t1494 : Cond.instanceMethod ⟨"TemperCellarModel", "bottleLine", "(I)V"⟩ ∈ T0 := T0_k7 54 rfl rfl
theorem t1495 : Cond.code ⟨"TemperCellarModel", "bottleLine", "(I)V"⟩ prog_12_method_24_code 2 (none : Option FieldType) ∈ T0 := T0_k7 55 rfl rfl
theorem t1496 : Cond.methodLink "TemperCellarModel" 240 ⟨"TemperCellarModel", "manAhead", "()I"⟩ ∈ T0 := T0_k7 56 rfl rfl
theorem t1498 : Cond.instanceMethod ⟨"TemperCellarModel", "manAhead", "()I"⟩ ∈ T0 := T0_k7 58 rfl rfl
theorem t1499 : Cond.code ⟨"TemperCellarModel", "manAhead", "()I"⟩ prog_12_method_21_code 2 (some FieldType.int) ∈ T0 := T0_k7 59 rfl rfl
theorem t1500 : Cond.methodLink "TemperCellarModel" 213 ⟨"TemperCellarModel", "manAtHand", "()I"⟩ ∈ T0 := T0_k7 60 rfl rfl
theorem t1502 : Cond.instanceMethod ⟨"TemperCellarModel", "manAtHand", "()I"⟩ ∈ T0 := T0_k7 62 rfl rfl
theorem t1503 : Cond.code ⟨"TemperCellarModel", "manAtHand", "()I"⟩ prog_12_method_20_code 1 (some FieldType.int) ∈ T0 := T0_k7 63 rfl rfl
theorem t1504 : Cond.methodLink "TemperCellarModel" 216 ⟨"TemperCellarModel", "goOn", "()V"⟩ ∈ T0 := T0_k7 64 rfl rfl
theorem t1506 : Cond.instanceMethod ⟨"TemperCellarModel", "goOn", "()V"⟩ ∈ T0 := T0_k7 66 rfl rfl
theorem t1507 : Cond.code ⟨"TemperCellarModel", "goOn", "()V"⟩ prog_12_method_14_code 1 (none : Option FieldType) ∈ T0 := T0_k7 67 rfl rfl
theorem t1508 : Cond.methodLink "TemperCellarModel" 243 ⟨"TemperCellarModel", "lawLine", "()V"⟩ ∈ T0 := T0_k7 68 rfl rfl
theorem t1510 : Cond.instanceMethod ⟨"TemperCellarModel", "lawLine", "()V"⟩ ∈ T0 := T0_k7 70 rfl rfl
theorem t1511 : Cond.code ⟨"TemperCellarModel", "lawLine", "()V"⟩ prog_12_method_25_code 2 (none : Option FieldType) ∈ T0 := T0_k7 71 rfl rfl
theorem t1512 : Cond.methodLink "TemperCellarModel" 252 ⟨"TemperCellarModel", "expression", "()V"⟩ ∈ T0 := T0_k7 72 rfl rfl
theorem t1514 : Cond.instanceMethod ⟨"TemperCellarModel", "expression", "()V"⟩ ∈ T0 := T0_k7 74 rfl rfl
theorem t1515 : Cond.code ⟨"TemperCellarModel", "expression", "()V"⟩ prog_12_method_28_code 1 (none : Option FieldType) ∈ T0 := T0_k7 75 rfl rfl
theorem t1516 : Cond.methodLink "TemperCellarModel" 258 ⟨"TemperCellarModel", "conjunction", "()V"⟩ ∈ T0 := T0_k7 76 rfl rfl
theorem t1518 : Cond.instanceMethod ⟨"TemperCellarModel", "conjunction", "()V"⟩ ∈ T0 := T0_k7 78 rfl rfl
theorem t1519 : Cond.code ⟨"TemperCellarModel", "conjunction", "()V"⟩ prog_12_method_29_code 1 (none : Option FieldType) ∈ T0 := T0_k7 79 rfl rfl
theorem t1520 : Cond.methodLink "TemperCellarModel" 270 ⟨"TemperCellarModel", "negation", "()V"⟩ ∈ T0 := T0_k7 80 rfl rfl
theorem t1522 : Cond.instanceMethod ⟨"TemperCellarModel", "negation", "()V"⟩ ∈ T0 := T0_k7 82 rfl rfl
theorem t1523 : Cond.code ⟨"TemperCellarModel", "negation", "()V"⟩ prog_12_method_30_code 2 (none : Option FieldType) ∈ T0 := T0_k7 83 rfl rfl
theorem t1524 : Cond.methodLink "TemperCellarModel" 261 ⟨"TemperCellarModel", "isWord", "(I)Z"⟩ ∈ T0 := T0_k7 84 rfl rfl
theorem t1526 : Cond.instanceMethod ⟨"TemperCellarModel", "isWord", "(I)Z"⟩ ∈ T0 := T0_k7 86 rfl rfl
theorem t1527 : Cond.code ⟨"TemperCellarModel", "isWord", "(I)Z"⟩ prog_12_method_12_code 2 (some FieldType.boolean) ∈ T0 := T0_k7 87 rfl rfl
theorem t1528 : Cond.methodLink "TemperCellarModel" 264 ⟨"TemperCellarModel", "knot", "()V"⟩ ∈ T0 := T0_k7 88 rfl rfl
theorem t1530 : Cond.instanceMethod ⟨"TemperCellarModel", "knot", "()V"⟩ ∈ T0 := T0_k7 90 rfl rfl
theorem t1531 : Cond.code ⟨"TemperCellarModel", "knot", "()V"⟩ prog_12_method_27_code 1 (none : Option FieldType) ∈ T0 := T0_k7 91 rfl rfl
theorem t1532 : Cond.methodLink "TemperCellarModel" 267 ⟨"TemperCellarModel", "puts", "(II)V"⟩ ∈ T0 := T0_k7 92 rfl rfl
theorem t1534 : Cond.instanceMethod ⟨"TemperCellarModel", "puts", "(II)V"⟩ ∈ T0 := T0_k7 94 rfl rfl
theorem t1535 : Cond.code ⟨"TemperCellarModel", "puts", "(II)V"⟩ prog_12_method_26_code 3 (none : Option FieldType) ∈ T0 := T0_k7 95 rfl rfl
theorem t1536 : Cond.methodLink "TemperCellarModel" 273 ⟨"TemperCellarModel", "sum", "()V"⟩ ∈ T0 := T0_k7 96 rfl rfl
theorem t1538 : Cond.instanceMethod ⟨"TemperCellarModel", "sum", "()V"⟩ ∈ T0 := T0_k7 98 rfl rfl
theorem t1539 : Cond.code ⟨"TemperCellarModel", "sum", "()V"⟩ prog_12_method_31_code 2 (none : Option FieldType) ∈ T0 := T0_k7 99 rfl rfl
theorem t1540 : Cond.methodLink "TemperCellarModel" 276 ⟨"TemperCellarModel", "product", "()V"⟩ ∈ T0 := T0_k7 100 rfl rfl
theorem t1542 : Cond.instanceMethod ⟨"TemperCellarModel", "product", "()V"⟩ ∈ T0 := T0_k7 102 rfl rfl
theorem t1543 : Cond.code ⟨"TemperCellarModel", "product", "()V"⟩ prog_12_method_32_code 2 (none : Option FieldType) ∈ T0 := T0_k7 103 rfl rfl
theorem t1544 : Cond.methodLink "TemperCellarModel" 279 ⟨"TemperCellarModel", "primary", "()V"⟩ ∈ T0 := T0_k7 104 rfl rfl
theorem t1546 : Cond.instanceMethod ⟨"TemperCellarModel", "primary", "()V"⟩ ∈ T0 := T0_k7 106 rfl rfl
theorem t1547 : Cond.code ⟨"TemperCellarModel", "primary", "()V"⟩ prog_12_method_33_code 2 (none : Option FieldType) ∈ T0 := T0_k7 107 rfl rfl
theorem t1548 : Cond.methodLink "TemperCellarModel" 246 ⟨"TemperCellarModel", "isSign", "(I)Z"⟩ ∈ T0 := T0_k7 108 rfl rfl
theorem t1550 : Cond.instanceMethod ⟨"TemperCellarModel", "isSign", "(I)Z"⟩ ∈ T0 := T0_k7 110 rfl rfl
theorem t1551 : Cond.code ⟨"TemperCellarModel", "isSign", "(I)Z"⟩ prog_12_method_13_code 2 (some FieldType.boolean) ∈ T0 := T0_k7 111 rfl rfl
theorem t1552 : Cond.methodLink "TemperCellarModel" 291 ⟨"TemperCellarModel", "half", "([I)V"⟩ ∈ T0 := T0_k7 112 rfl rfl
theorem t1553 : Cond.static ⟨"TemperCellarModel", "half", "([I)V"⟩ ∈ T0 := T0_k7 113 rfl rfl
theorem t1554 : Cond.code ⟨"TemperCellarModel", "half", "([I)V"⟩ prog_12_method_34_code 3 (none : Option FieldType) ∈ T0 := T0_k7 114 rfl rfl
theorem t1555 : Cond.methodLink "TemperCellarLaw" 34 ⟨"TemperCellarModel", "fault", "(I)I"⟩ ∈ T0 := T0_k7 115 rfl rfl
theorem t1556 : Cond.instanceMethod ⟨"TemperCellarModel", "fault", "(I)I"⟩ ∈ T0 := T0_k7 116 rfl rfl
theorem t1557 : Cond.selects "TemperCellarModel" ⟨"TemperCellarModel", "fault", "(I)I"⟩ ⟨"TemperCellarModel", "fault", "(I)I"⟩ ∈ T0 := T0_k7 117 rfl rfl
theorem t1558 : Cond.code ⟨"TemperCellarModel", "fault", "(I)I"⟩ prog_12_method_36_code 2 (some FieldType.int) ∈ T0 := T0_k7 118 rfl rfl
theorem t1559 : Cond.methodLink "TemperCellarLaw" 38 ⟨"TemperCellarModel", "named", "(II)I"⟩ ∈ T0 := T0_k7 119 rfl rfl
theorem t1560 : Cond.instanceMethod ⟨"TemperCellarModel", "named", "(II)I"⟩ ∈ T0 := T0_k7 120 rfl rfl
theorem t1561 : Cond.selects "TemperCellarModel" ⟨"TemperCellarModel", "named", "(II)I"⟩ ⟨"TemperCellarModel", "named", "(II)I"⟩ ∈ T0 := T0_k7 121 rfl rfl
theorem t1562 : Cond.code ⟨"TemperCellarModel", "named", "(II)I"⟩ prog_12_method_37_code 3 (some FieldType.int) ∈ T0 := T0_k7 122 rfl rfl
theorem t1563 : Cond.methodLink "TemperCellarLaw" 44 ⟨"TemperCellarModel", "bottle", "(II)I"⟩ ∈ T0 := T0_k7 123 rfl rfl
theorem t1564 : Cond.instanceMethod ⟨"TemperCellarModel", "bottle", "(II)I"⟩ ∈ T0 := T0_k7 124 rfl rfl
theorem t1565 : Cond.selects "TemperCellarModel" ⟨"TemperCellarModel", "bottle", "(II)I"⟩ ⟨"TemperCellarModel", "bottle", "(II)I"⟩ ∈ T0 := T0_k7 125 rfl rfl
theorem t1566 : Cond.code ⟨"TemperCellarModel", "bottle", "(II)I"⟩ prog_12_method_66_code 3 (some FieldType.int) ∈ T0 := T0_k7 126 rfl rfl
theorem t1567 : Cond.methodLink "TemperCellarModel" 403 ⟨"TemperCellarModel", "isBottle", "(I)Z"⟩ ∈ T0 := T0_k7 127 rfl rfl
theorem t1569 : Cond.instanceMethod ⟨"TemperCellarModel", "isBottle", "(I)Z"⟩ ∈ T0 := T0_k7 129 rfl rfl
theorem t1570 : Cond.code ⟨"TemperCellarModel", "isBottle", "(I)Z"⟩ prog_12_method_46_code 2 (some FieldType.boolean) ∈ T0 := T0_k7 130 rfl rfl
theorem t1571 : Cond.methodLink "TemperCellarLaw" 52 ⟨"TemperCellarModel", "man", "(II)I"⟩ ∈ T0 := T0_k7 131 rfl rfl
theorem t1572 : Cond.instanceMethod ⟨"TemperCellarModel", "man", "(II)I"⟩ ∈ T0 := T0_k7 132 rfl rfl
theorem t1573 : Cond.selects "TemperCellarModel" ⟨"TemperCellarModel", "man", "(II)I"⟩ ⟨"TemperCellarModel", "man", "(II)I"⟩ ∈ T0 := T0_k7 133 rfl rfl
theorem t1574 : Cond.code ⟨"TemperCellarModel", "man", "(II)I"⟩ prog_12_method_69_code 3 (some FieldType.int) ∈ T0 := T0_k7 134 rfl rfl
theorem t1575 : Cond.methodLink "TemperCellarModel" 406 ⟨"TemperCellarModel", "isMan", "(I)Z"⟩ ∈ T0 := T0_k7 135 rfl rfl
theorem t1577 : Cond.instanceMethod ⟨"TemperCellarModel", "isMan", "(I)Z"⟩ ∈ T0 := T0_k7 137 rfl rfl
theorem t1578 : Cond.code ⟨"TemperCellarModel", "isMan", "(I)Z"⟩ prog_12_method_45_code 2 (some FieldType.boolean) ∈ T0 := T0_k7 138 rfl rfl
theorem t1579 : Cond.methodLink "TemperCellarModel" 409 ⟨"TemperCellarModel", "ownSet", "(I)I"⟩ ∈ T0 := T0_k7 139 rfl rfl
theorem t1581 : Cond.instanceMethod ⟨"TemperCellarModel", "ownSet", "(I)I"⟩ ∈ T0 := T0_k7 141 rfl rfl
theorem t1582 : Cond.code ⟨"TemperCellarModel", "ownSet", "(I)I"⟩ prog_12_method_67_code 4 (some FieldType.int) ∈ T0 := T0_k7 142 rfl rfl
theorem t1583 : Cond.methodLink "TemperCellarModel" 328 ⟨"TemperCellarModel", "isLying", "(II)Z"⟩ ∈ T0 := T0_k7 143 rfl rfl
theorem t1585 : Cond.instanceMethod ⟨"TemperCellarModel", "isLying", "(II)Z"⟩ ∈ T0 := T0_k7 145 rfl rfl
theorem t1586 : Cond.code ⟨"TemperCellarModel", "isLying", "(II)Z"⟩ prog_12_method_48_code 3 (some FieldType.boolean) ∈ T0 := T0_k7 146 rfl rfl
theorem t1587 : Cond.methodLink "TemperCellarModel" 400 ⟨"TemperCellarModel", "bitsOf", "(I)I"⟩ ∈ T0 := T0_k7 147 rfl rfl
theorem t1588 : Cond.static ⟨"TemperCellarModel", "bitsOf", "(I)I"⟩ ∈ T0 := T0_k7 148 rfl rfl
theorem t1589 : Cond.code ⟨"TemperCellarModel", "bitsOf", "(I)I"⟩ prog_12_method_64_code 3 (some FieldType.int) ∈ T0 := T0_k7 149 rfl rfl
theorem t1590 : Cond.methodLink "TemperCellarModel" 412 ⟨"TemperCellarModel", "forceIn", "(I)I"⟩ ∈ T0 := T0_k7 150 rfl rfl
theorem t1592 : Cond.instanceMethod ⟨"TemperCellarModel", "forceIn", "(I)I"⟩ ∈ T0 := T0_k7 152 rfl rfl
theorem t1593 : Cond.code ⟨"TemperCellarModel", "forceIn", "(I)I"⟩ prog_12_method_68_code 4 (some FieldType.int) ∈ T0 := T0_k7 153 rfl rfl
theorem t1594 : Cond.methodLink "TemperCellarLaw" 56 ⟨"TemperCellarModel", "need", "(II)I"⟩ ∈ T0 := T0_k7 154 rfl rfl
theorem t1595 : Cond.instanceMethod ⟨"TemperCellarModel", "need", "(II)I"⟩ ∈ T0 := T0_k7 155 rfl rfl
theorem t1596 : Cond.selects "TemperCellarModel" ⟨"TemperCellarModel", "need", "(II)I"⟩ ⟨"TemperCellarModel", "need", "(II)I"⟩ ∈ T0 := T0_k7 156 rfl rfl
theorem t1597 : Cond.code ⟨"TemperCellarModel", "need", "(II)I"⟩ prog_12_method_70_code 3 (some FieldType.int) ∈ T0 := T0_k7 157 rfl rfl
theorem t1598 : Cond.methodLink "TemperCellarModel" 415 ⟨"TemperCellarModel", "isNeed", "(I)Z"⟩ ∈ T0 := T0_k7 158 rfl rfl
theorem t1600 : Cond.instanceMethod ⟨"TemperCellarModel", "isNeed", "(I)Z"⟩ ∈ T0 := T0_k7 160 rfl rfl
theorem t1601 : Cond.code ⟨"TemperCellarModel", "isNeed", "(I)Z"⟩ prog_12_method_47_code 2 (some FieldType.boolean) ∈ T0 := T0_k7 161 rfl rfl
theorem t1602 : Cond.methodLink "TemperCellarLaw" 60 ⟨"TemperCellarModel", "bin", "(I)I"⟩ ∈ T0 := T0_k7 162 rfl rfl
theorem t1603 : Cond.instanceMethod ⟨"TemperCellarModel", "bin", "(I)I"⟩ ∈ T0 := T0_k7 163 rfl rfl
theorem t1604 : Cond.selects "TemperCellarModel" ⟨"TemperCellarModel", "bin", "(I)I"⟩ ⟨"TemperCellarModel", "bin", "(I)I"⟩ ∈ T0 := T0_k7 164 rfl rfl
theorem t1605 : Cond.code ⟨"TemperCellarModel", "bin", "(I)I"⟩ prog_12_method_71_code 4 (some FieldType.int) ∈ T0 := T0_k7 165 rfl rfl
theorem t1606 : Cond.methodLink "TemperCellarLaw" 65 ⟨"TemperCellarModel", "law", "(II)J"⟩ ∈ T0 := T0_k7 166 rfl rfl
theorem t1607 : Cond.instanceMethod ⟨"TemperCellarModel", "law", "(II)J"⟩ ∈ T0 := T0_k7 167 rfl rfl
theorem t1608 : Cond.selects "TemperCellarModel" ⟨"TemperCellarModel", "law", "(II)J"⟩ ⟨"TemperCellarModel", "law", "(II)J"⟩ ∈ T0 := T0_k7 168 rfl rfl
theorem t1609 : Cond.code ⟨"TemperCellarModel", "law", "(II)J"⟩ prog_12_method_73_code 3 (some FieldType.long) ∈ T0 := T0_k7 169 rfl rfl
theorem t1610 : Cond.methodLink "TemperCellarModel" 338 ⟨"TemperCellarModel", "hasLaw", "(I)Z"⟩ ∈ T0 := T0_k7 170 rfl rfl
theorem t1612 : Cond.instanceMethod ⟨"TemperCellarModel", "hasLaw", "(I)Z"⟩ ∈ T0 := T0_k7 172 rfl rfl
theorem t1613 : Cond.code ⟨"TemperCellarModel", "hasLaw", "(I)Z"⟩ prog_12_method_41_code 2 (some FieldType.boolean) ∈ T0 := T0_k7 173 rfl rfl
theorem t1614 : Cond.methodLink "TemperCellarModel" 418 ⟨"TemperCellarModel", "isLyingNow", "(I)Z"⟩ ∈ T0 := T0_k7 174 rfl rfl
theorem t1616 : Cond.instanceMethod ⟨"TemperCellarModel", "isLyingNow", "(I)Z"⟩ ∈ T0 := T0_k7 176 rfl rfl
theorem t1617 : Cond.code ⟨"TemperCellarModel", "isLyingNow", "(I)Z"⟩ prog_12_method_72_code 2 (some FieldType.boolean) ∈ T0 := T0_k7 177 rfl rfl
theorem t1618 : Cond.constantLong "TemperCellarModel" 423 (-9223372036854775808 : Int64) ∈ T0 := T0_k7 178 rfl rfl
theorem t1619 : Cond.methodLink "TemperCellarModel" 353 ⟨"TemperCellarModel", "calls", "(II)V"⟩ ∈ T0 := T0_k7 179 rfl rfl
theorem t1621 : Cond.instanceMethod ⟨"TemperCellarModel", "calls", "(II)V"⟩ ∈ T0 := T0_k7 181 rfl rfl
theorem t1622 : Cond.code ⟨"TemperCellarModel", "calls", "(II)V"⟩ prog_12_method_51_code 4 (none : Option FieldType) ∈ T0 := T0_k7 182 rfl rfl
theorem t1623 : Cond.methodLink "TemperCellarModel" 332 ⟨"TemperCellarModel", "hatedOf", "(II)I"⟩ ∈ T0 := T0_k7 183 rfl rfl
theorem t1625 : Cond.instanceMethod ⟨"TemperCellarModel", "hatedOf", "(II)I"⟩ ∈ T0 := T0_k7 185 rfl rfl
theorem t1626 : Cond.code ⟨"TemperCellarModel", "hatedOf", "(II)I"⟩ prog_12_method_50_code 5 (some FieldType.int) ∈ T0 := T0_k7 186 rfl rfl
theorem t1627 : Cond.methodLink "TemperCellarModel" 335 ⟨"TemperCellarModel", "loadOf", "(II)I"⟩ ∈ T0 := T0_k7 187 rfl rfl
theorem t1629 : Cond.instanceMethod ⟨"TemperCellarModel", "loadOf", "(II)I"⟩ ∈ T0 := T0_k7 189 rfl rfl
theorem t1630 : Cond.code ⟨"TemperCellarModel", "loadOf", "(II)I"⟩ prog_12_method_49_code 5 (some FieldType.int) ∈ T0 := T0_k7 190 rfl rfl
theorem t1631 : Cond.methodLink "TemperCellarModel" 341 ⟨"TemperCellarModel", "goes", "(I)Z"⟩ ∈ T0 := T0_k7 191 rfl rfl
theorem t1633 : Cond.instanceMethod ⟨"TemperCellarModel", "goes", "(I)Z"⟩ ∈ T0 := T0_k7 193 rfl rfl
theorem t1634 : Cond.code ⟨"TemperCellarModel", "goes", "(I)Z"⟩ prog_12_method_40_code 3 (some FieldType.boolean) ∈ T0 := T0_k7 194 rfl rfl
theorem t1635 : Cond.methodLink "TemperCellarModel" 322 ⟨"TemperCellarModel", "works", "(I)Z"⟩ ∈ T0 := T0_k7 195 rfl rfl
theorem t1637 : Cond.instanceMethod ⟨"TemperCellarModel", "works", "(I)Z"⟩ ∈ T0 := T0_k7 197 rfl rfl
theorem t1638 : Cond.code ⟨"TemperCellarModel", "works", "(I)Z"⟩ prog_12_method_39_code 8 (some FieldType.boolean) ∈ T0 := T0_k7 198 rfl rfl
theorem t1639 : Cond.methodLink "TemperCellarModel" 308 ⟨"TemperCellarModel", "is", "(Z)J"⟩ ∈ T0 := T0_k7 199 rfl rfl
theorem t1640 : Cond.static ⟨"TemperCellarModel", "is", "(Z)J"⟩ ∈ T0 := T0_k7 200 rfl rfl
theorem t1641 : Cond.code ⟨"TemperCellarModel", "is", "(Z)J"⟩ prog_12_method_38_code 1 (some FieldType.long) ∈ T0 := T0_k7 201 rfl rfl
theorem t1642 : Cond.methodLink "TemperCellarModel" 312 ⟨"java/lang/Math", "abs", "(J)J"⟩ ∈ T0 := T0_k7 202 rfl rfl
theorem t1643 : Cond.static ⟨"java/lang/Math", "abs", "(J)J"⟩ ∈ T0 := T0_k7 203 rfl rfl
theorem t1644 : Cond.code ⟨"java/lang/Math", "abs", "(J)J"⟩ prog_19_method_61_code 2 (some FieldType.long) ∈ T0 := T0_k7 204 rfl rfl
theorem t1645 : Cond.constantLong "TemperCellarModel" 318 (1000000000000 : Int64) ∈ T0 := T0_k7 205 rfl rfl
theorem t1646 : Cond.constantLong "TemperCellarModel" 320 (-1000000000000 : Int64) ∈ T0 := T0_k7 206 rfl rfl
theorem t1647 : Cond.methodLink "TemperCellarLaw" 70 ⟨"TemperCellarModel", "rack", "(II)Z"⟩ ∈ T0 := T0_k7 207 rfl rfl
theorem t1648 : Cond.instanceMethod ⟨"TemperCellarModel", "rack", "(II)Z"⟩ ∈ T0 := T0_k7 208 rfl rfl
theorem t1649 : Cond.selects "TemperCellarModel" ⟨"TemperCellarModel", "rack", "(II)Z"⟩ ⟨"TemperCellarModel", "rack", "(II)Z"⟩ ∈ T0 := T0_k7 209 rfl rfl
theorem t1650 : Cond.code ⟨"TemperCellarModel", "rack", "(II)Z"⟩ prog_12_method_75_code 3 (some FieldType.boolean) ∈ T0 := T0_k7 210 rfl rfl
theorem t1651 : Cond.methodLink "TemperCellarModel" 425 ⟨"TemperCellarModel", "keepNow", "()V"⟩ ∈ T0 := T0_k7 211 rfl rfl
theorem t1653 : Cond.instanceMethod ⟨"TemperCellarModel", "keepNow", "()V"⟩ ∈ T0 := T0_k7 213 rfl rfl
theorem t1654 : Cond.code ⟨"TemperCellarModel", "keepNow", "()V"⟩ prog_12_method_74_code 2 (none : Option FieldType) ∈ T0 := T0_k7 214 rfl rfl
theorem t1655 : Cond.methodLink "TemperCellarModel" 394 ⟨"TemperCellarModel", "copies", "(II)V"⟩ ∈ T0 := T0_k7 215 rfl rfl
theorem t1657 : Cond.instanceMethod ⟨"TemperCellarModel", "copies", "(II)V"⟩ ∈ T0 := T0_k7 217 rfl rfl
theorem t1658 : Cond.code ⟨"TemperCellarModel", "copies", "(II)V"⟩ prog_12_method_44_code 6 (none : Option FieldType) ∈ T0 := T0_k7 218 rfl rfl
theorem t1659 : Cond.methodLink "TemperCellarLaw" 74 ⟨"TemperCellarModel", "seal", "(I)I"⟩ ∈ T0 := T0_k7 219 rfl rfl
theorem t1660 : Cond.instanceMethod ⟨"TemperCellarModel", "seal", "(I)I"⟩ ∈ T0 := T0_k7 220 rfl rfl
theorem t1661 : Cond.selects "TemperCellarModel" ⟨"TemperCellarModel", "seal", "(I)I"⟩ ⟨"TemperCellarModel", "seal", "(I)I"⟩ ∈ T0 := T0_k7 221 rfl rfl
theorem t1662 : Cond.code ⟨"TemperCellarModel", "seal", "(I)I"⟩ prog_12_method_76_code 2 (some FieldType.int) ∈ T0 := T0_k7 222 rfl rfl
theorem t1663 : Cond.methodLink "TemperCellarLaw" 78 ⟨"TemperCellarModel", "open", "(I)I"⟩ ∈ T0 := T0_k7 223 rfl rfl
theorem t1664 : Cond.instanceMethod ⟨"TemperCellarModel", "open", "(I)I"⟩ ∈ T0 := T0_k7 224 rfl rfl
theorem t1665 : Cond.selects "TemperCellarModel" ⟨"TemperCellarModel", "open", "(I)I"⟩ ⟨"TemperCellarModel", "open", "(I)I"⟩ ∈ T0 := T0_k7 225 rfl rfl
theorem t1666 : Cond.code ⟨"TemperCellarModel", "open", "(I)I"⟩ prog_12_method_77_code 2 (some FieldType.int) ∈ T0 := T0_k7 226 rfl rfl
theorem t1667 : Cond.methodLink "TemperCellarLaw" 82 ⟨"TemperCellarModel", "go", "(I)I"⟩ ∈ T0 := T0_k7 227 rfl rfl
theorem t1668 : Cond.instanceMethod ⟨"TemperCellarModel", "go", "(I)I"⟩ ∈ T0 := T0_k7 228 rfl rfl
theorem t1669 : Cond.selects "TemperCellarModel" ⟨"TemperCellarModel", "go", "(I)I"⟩ ⟨"TemperCellarModel", "go", "(I)I"⟩ ∈ T0 := T0_k7 229 rfl rfl
theorem t1670 : Cond.code ⟨"TemperCellarModel", "go", "(I)I"⟩ prog_12_method_78_code 3 (some FieldType.int) ∈ T0 := T0_k7 230 rfl rfl
theorem t1671 : Cond.methodLink "TemperCellarModel" 390 ⟨"TemperCellarModel", "passes", "(IZ)V"⟩ ∈ T0 := T0_k7 231 rfl rfl
theorem t1673 : Cond.instanceMethod ⟨"TemperCellarModel", "passes", "(IZ)V"⟩ ∈ T0 := T0_k7 233 rfl rfl
theorem t1674 : Cond.code ⟨"TemperCellarModel", "passes", "(IZ)V"⟩ prog_12_method_59_code 5 (none : Option FieldType) ∈ T0 := T0_k7 234 rfl rfl
theorem t1675 : Cond.methodLink "TemperCellarModel" 375 ⟨"TemperCellarModel", "doesThunder", "(IZ)Z"⟩ ∈ T0 := T0_k7 235 rfl rfl
theorem t1677 : Cond.instanceMethod ⟨"TemperCellarModel", "doesThunder", "(IZ)Z"⟩ ∈ T0 := T0_k7 237 rfl rfl
theorem t1678 : Cond.code ⟨"TemperCellarModel", "doesThunder", "(IZ)Z"⟩ prog_12_method_55_code 4 (some FieldType.boolean) ∈ T0 := T0_k7 238 rfl rfl
theorem t1679 : Cond.constant "TemperCellarModel" 362 (1103515245 : Int32) ∈ T0 := T0_k7 239 rfl rfl
theorem t1680 : Cond.constant "TemperCellarModel" 365 (2147483647 : Int32) ∈ T0 := T0_k8 0 rfl rfl
theorem t1681 : Cond.methodLink "TemperCellarModel" 379 ⟨"TemperCellarModel", "creeps", "(I)V"⟩ ∈ T0 := T0_k8 1 rfl rfl
theorem t1683 : Cond.instanceMethod ⟨"TemperCellarModel", "creeps", "(I)V"⟩ ∈ T0 := T0_k8 3 rfl rfl
theorem t1684 : Cond.code ⟨"TemperCellarModel", "creeps", "(I)V"⟩ prog_12_method_56_code 4 (none : Option FieldType) ∈ T0 := T0_k8 4 rfl rfl
theorem t1685 : Cond.methodLink "TemperCellarModel" 366 ⟨"TemperCellarModel", "within", "(II)I"⟩ ∈ T0 := T0_k8 5 rfl rfl
theorem t1687 : Cond.instanceMethod ⟨"TemperCellarModel", "within", "(II)I"⟩ ∈ T0 := T0_k8 7 rfl rfl
theorem t1688 : Cond.code ⟨"TemperCellarModel", "within", "(II)I"⟩ prog_12_method_52_code 3 (some FieldType.int) ∈ T0 := T0_k8 8 rfl rfl
theorem t1689 : Cond.constantLong "TemperCellarModel" 344 (9 : Int64) ∈ T0 := T0_k8 9 rfl rfl
theorem t1690 : Cond.methodLink "TemperCellarModel" 346 ⟨"java/lang/Math", "min", "(JJ)J"⟩ ∈ T0 := T0_k8 10 rfl rfl
theorem t1691 : Cond.methodLink "TemperCellarModel" 350 ⟨"java/lang/Math", "max", "(JJ)J"⟩ ∈ T0 := T0_k8 11 rfl rfl
theorem t1692 : Cond.methodLink "TemperCellarModel" 369 ⟨"java/lang/Math", "max", "(II)I"⟩ ∈ T0 := T0_k8 12 rfl rfl
theorem t1693 : Cond.methodLink "TemperCellarModel" 382 ⟨"java/lang/Math", "min", "(II)I"⟩ ∈ T0 := T0_k8 13 rfl rfl
theorem t1694 : Cond.methodLink "TemperCellarModel" 384 ⟨"TemperCellarModel", "goesOff", "(II)V"⟩ ∈ T0 := T0_k8 14 rfl rfl
theorem t1696 : Cond.instanceMethod ⟨"TemperCellarModel", "goesOff", "(II)V"⟩ ∈ T0 := T0_k8 16 rfl rfl
theorem t1697 : Cond.code ⟨"TemperCellarModel", "goesOff", "(II)V"⟩ prog_12_method_54_code 7 (none : Option FieldType) ∈ T0 := T0_k8 17 rfl rfl
theorem t1698 : Cond.methodLink "TemperCellarModel" 359 ⟨"TemperCellarModel", "isSetOff", "(II)Z"⟩ ∈ T0 := T0_k8 18 rfl rfl
theorem t1700 : Cond.instanceMethod ⟨"TemperCellarModel", "isSetOff", "(II)Z"⟩ ∈ T0 := T0_k8 20 rfl rfl
theorem t1701 : Cond.code ⟨"TemperCellarModel", "isSetOff", "(II)Z"⟩ prog_12_method_53_code 3 (some FieldType.boolean) ∈ T0 := T0_k8 21 rfl rfl
theorem t1702 : Cond.methodLink "TemperCellarModel" 387 ⟨"TemperCellarModel", "comes", "(II)V"⟩ ∈ T0 := T0_k8 22 rfl rfl
theorem t1704 : Cond.instanceMethod ⟨"TemperCellarModel", "comes", "(II)V"⟩ ∈ T0 := T0_k8 24 rfl rfl
theorem t1705 : Cond.code ⟨"TemperCellarModel", "comes", "(II)V"⟩ prog_12_method_58_code 5 (none : Option FieldType) ∈ T0 := T0_k8 25 rfl rfl
theorem t1706 : Cond.methodLink "TemperCellarModel" 371 ⟨"TemperCellarModel", "weakest", "(IIZ)I"⟩ ∈ T0 := T0_k8 26 rfl rfl
theorem t1708 : Cond.instanceMethod ⟨"TemperCellarModel", "weakest", "(IIZ)I"⟩ ∈ T0 := T0_k8 28 rfl rfl
theorem t1709 : Cond.code ⟨"TemperCellarModel", "weakest", "(IIZ)I"⟩ prog_12_method_57_code 7 (some FieldType.int) ∈ T0 := T0_k8 29 rfl rfl
theorem t1710 : Cond.methodLink "TemperCellarLaw" 87 ⟨"TemperCellarModel", "ahead", "(III)I"⟩ ∈ T0 := T0_k8 30 rfl rfl
theorem t1711 : Cond.instanceMethod ⟨"TemperCellarModel", "ahead", "(III)I"⟩ ∈ T0 := T0_k8 31 rfl rfl
theorem t1712 : Cond.selects "TemperCellarModel" ⟨"TemperCellarModel", "ahead", "(III)I"⟩ ⟨"TemperCellarModel", "ahead", "(III)I"⟩ ∈ T0 := T0_k8 32 rfl rfl
theorem t1713 : Cond.code ⟨"TemperCellarModel", "ahead", "(III)I"⟩ prog_12_method_79_code 4 (some FieldType.int) ∈ T0 := T0_k8 33 rfl rfl
theorem t1714 : Cond.methodLink "TemperCellarModel" 428 ⟨"TemperCellarModel", "runs", "(I)V"⟩ ∈ T0 := T0_k8 34 rfl rfl
theorem t1716 : Cond.instanceMethod ⟨"TemperCellarModel", "runs", "(I)V"⟩ ∈ T0 := T0_k8 36 rfl rfl
theorem t1717 : Cond.code ⟨"TemperCellarModel", "runs", "(I)V"⟩ prog_12_method_61_code 2 (none : Option FieldType) ∈ T0 := T0_k8 37 rfl rfl
theorem t1718 : Cond.methodLink "TemperCellarModel" 397 ⟨"TemperCellarModel", "goesOn", "(I)V"⟩ ∈ T0 := T0_k8 38 rfl rfl
theorem t1720 : Cond.instanceMethod ⟨"TemperCellarModel", "goesOn", "(I)V"⟩ ∈ T0 := T0_k8 40 rfl rfl
theorem t1721 : Cond.code ⟨"TemperCellarModel", "goesOn", "(I)V"⟩ prog_12_method_60_code 3 (none : Option FieldType) ∈ T0 := T0_k8 41 rfl rfl
theorem t1722 : Cond.methodLink "TemperCellarModel" 431 ⟨"TemperCellarModel", "manyOf", "(II)I"⟩ ∈ T0 := T0_k8 42 rfl rfl
theorem t1724 : Cond.instanceMethod ⟨"TemperCellarModel", "manyOf", "(II)I"⟩ ∈ T0 := T0_k8 44 rfl rfl
theorem t1725 : Cond.code ⟨"TemperCellarModel", "manyOf", "(II)I"⟩ prog_12_method_62_code 5 (some FieldType.int) ∈ T0 := T0_k8 45 rfl rfl
theorem t1726 : Cond.methodLink "TemperCellarModel" 434 ⟨"TemperCellarModel", "needsOf", "(IZ)I"⟩ ∈ T0 := T0_k8 46 rfl rfl
theorem t1728 : Cond.instanceMethod ⟨"TemperCellarModel", "needsOf", "(IZ)I"⟩ ∈ T0 := T0_k8 48 rfl rfl
theorem t1729 : Cond.code ⟨"TemperCellarModel", "needsOf", "(IZ)I"⟩ prog_12_method_63_code 6 (some FieldType.int) ∈ T0 := T0_k8 49 rfl rfl
theorem t1730 : Cond.methodLink "TemperCellarModel" 438 ⟨"TemperCellarModel", "hatesAll", "(I)I"⟩ ∈ T0 := T0_k8 50 rfl rfl
theorem t1732 : Cond.instanceMethod ⟨"TemperCellarModel", "hatesAll", "(I)I"⟩ ∈ T0 := T0_k8 52 rfl rfl
theorem t1733 : Cond.code ⟨"TemperCellarModel", "hatesAll", "(I)I"⟩ prog_12_method_65_code 4 (some FieldType.int) ∈ T0 := T0_k8 53 rfl rfl
theorem t1734 : Cond.methodLink "TemperCellarLaw" 91 ⟨"TemperCellarModel", "firstOff", "(I)I"⟩ ∈ T0 := T0_k8 54 rfl rfl
theorem t1735 : Cond.instanceMethod ⟨"TemperCellarModel", "firstOff", "(I)I"⟩ ∈ T0 := T0_k8 55 rfl rfl
theorem t1736 : Cond.selects "TemperCellarModel" ⟨"TemperCellarModel", "firstOff", "(I)I"⟩ ⟨"TemperCellarModel", "firstOff", "(I)I"⟩ ∈ T0 := T0_k8 56 rfl rfl
theorem t1737 : Cond.code ⟨"TemperCellarModel", "firstOff", "(I)I"⟩ prog_12_method_81_code 3 (some FieldType.int) ∈ T0 := T0_k8 57 rfl rfl
theorem t1738 : Cond.methodLink "TemperCellarModel" 441 ⟨"TemperCellarModel", "offMore", "()I"⟩ ∈ T0 := T0_k8 58 rfl rfl
theorem t1740 : Cond.instanceMethod ⟨"TemperCellarModel", "offMore", "()I"⟩ ∈ T0 := T0_k8 60 rfl rfl
theorem t1741 : Cond.code ⟨"TemperCellarModel", "offMore", "()I"⟩ prog_12_method_80_code 3 (some FieldType.int) ∈ T0 := T0_k8 61 rfl rfl
theorem t1742 : Cond.methodLink "TemperCellarLaw" 95 ⟨"TemperCellarModel", "chain", "(I)I"⟩ ∈ T0 := T0_k8 62 rfl rfl
theorem t1743 : Cond.instanceMethod ⟨"TemperCellarModel", "chain", "(I)I"⟩ ∈ T0 := T0_k8 63 rfl rfl
theorem t1744 : Cond.selects "TemperCellarModel" ⟨"TemperCellarModel", "chain", "(I)I"⟩ ⟨"TemperCellarModel", "chain", "(I)I"⟩ ∈ T0 := T0_k8 64 rfl rfl
theorem t1745 : Cond.code ⟨"TemperCellarModel", "chain", "(I)I"⟩ prog_12_method_82_code 2 (some FieldType.int) ∈ T0 := T0_k8 65 rfl rfl
theorem t1746 : Cond.methodLink "TemperCellarLaw" 99 ⟨"TemperCellarModel", "racking", "(II)I"⟩ ∈ T0 := T0_k8 66 rfl rfl
theorem t1747 : Cond.instanceMethod ⟨"TemperCellarModel", "racking", "(II)I"⟩ ∈ T0 := T0_k8 67 rfl rfl
theorem t1748 : Cond.selects "TemperCellarModel" ⟨"TemperCellarModel", "racking", "(II)I"⟩ ⟨"TemperCellarModel", "racking", "(II)I"⟩ ∈ T0 := T0_k8 68 rfl rfl
theorem t1749 : Cond.code ⟨"TemperCellarModel", "racking", "(II)I"⟩ prog_12_method_84_code 3 (some FieldType.int) ∈ T0 := T0_k8 69 rfl rfl
theorem t1750 : Cond.methodLink "TemperCellarModel" 453 ⟨"TemperCellarModel", "layRacks", "(I)V"⟩ ∈ T0 := T0_k8 70 rfl rfl
theorem t1752 : Cond.instanceMethod ⟨"TemperCellarModel", "layRacks", "(I)V"⟩ ∈ T0 := T0_k8 72 rfl rfl
theorem t1753 : Cond.code ⟨"TemperCellarModel", "layRacks", "(I)V"⟩ prog_12_method_83_code 4 (none : Option FieldType) ∈ T0 := T0_k8 73 rfl rfl
theorem t1754 : Cond.methodLink "TemperCellarLaw" 103 ⟨"TemperCellarModel", "serve", "(I)I"⟩ ∈ T0 := T0_k8 74 rfl rfl
theorem t1755 : Cond.instanceMethod ⟨"TemperCellarModel", "serve", "(I)I"⟩ ∈ T0 := T0_k8 75 rfl rfl
theorem t1756 : Cond.selects "TemperCellarModel" ⟨"TemperCellarModel", "serve", "(I)I"⟩ ⟨"TemperCellarModel", "serve", "(I)I"⟩ ∈ T0 := T0_k8 76 rfl rfl
theorem t1757 : Cond.code ⟨"TemperCellarModel", "serve", "(I)I"⟩ prog_12_method_88_code 5 (some FieldType.int) ∈ T0 := T0_k8 77 rfl rfl
theorem t1758 : Cond.methodLink "TemperCellarModel" 462 ⟨"TemperCellarModel", "layServe", "()V"⟩ ∈ T0 := T0_k8 78 rfl rfl
theorem t1760 : Cond.instanceMethod ⟨"TemperCellarModel", "layServe", "()V"⟩ ∈ T0 := T0_k8 80 rfl rfl
theorem t1761 : Cond.code ⟨"TemperCellarModel", "layServe", "()V"⟩ prog_12_method_86_code 5 (none : Option FieldType) ∈ T0 := T0_k8 81 rfl rfl
theorem t1762 : Cond.methodLink "TemperCellarModel" 459 ⟨"TemperCellarModel", "fits", "(II)Z"⟩ ∈ T0 := T0_k8 82 rfl rfl
theorem t1764 : Cond.instanceMethod ⟨"TemperCellarModel", "fits", "(II)Z"⟩ ∈ T0 := T0_k8 84 rfl rfl
theorem t1765 : Cond.code ⟨"TemperCellarModel", "fits", "(II)Z"⟩ prog_12_method_85_code 3 (some FieldType.boolean) ∈ T0 := T0_k8 85 rfl rfl
theorem t1766 : Cond.methodLink "TemperCellarModel" 465 ⟨"TemperCellarModel", "servedBy", "(II)I"⟩ ∈ T0 := T0_k8 86 rfl rfl
theorem t1768 : Cond.instanceMethod ⟨"TemperCellarModel", "servedBy", "(II)I"⟩ ∈ T0 := T0_k8 88 rfl rfl
theorem t1769 : Cond.code ⟨"TemperCellarModel", "servedBy", "(II)I"⟩ prog_12_method_87_code 4 (some FieldType.int) ∈ T0 := T0_k8 89 rfl rfl
theorem t1770 : Cond.methodLink "TemperCellarLaw" 107 ⟨"TemperCellarModel", "served", "()I"⟩ ∈ T0 := T0_k8 90 rfl rfl
theorem t1771 : Cond.instanceMethod ⟨"TemperCellarModel", "served", "()I"⟩ ∈ T0 := T0_k8 91 rfl rfl
theorem t1772 : Cond.selects "TemperCellarModel" ⟨"TemperCellarModel", "served", "()I"⟩ ⟨"TemperCellarModel", "served", "()I"⟩ ∈ T0 := T0_k8 92 rfl rfl
theorem t1773 : Cond.code ⟨"TemperCellarModel", "served", "()I"⟩ prog_12_method_89_code 1 (some FieldType.int) ∈ T0 := T0_k8 93 rfl rfl
theorem t1774 : Cond.methodLink "TemperCellarLaw" 111 ⟨"TemperCellarModel", "pour", "(II)I"⟩ ∈ T0 := T0_k8 94 rfl rfl
theorem t1775 : Cond.instanceMethod ⟨"TemperCellarModel", "pour", "(II)I"⟩ ∈ T0 := T0_k8 95 rfl rfl
theorem t1776 : Cond.selects "TemperCellarModel" ⟨"TemperCellarModel", "pour", "(II)I"⟩ ⟨"TemperCellarModel", "pour", "(II)I"⟩ ∈ T0 := T0_k8 96 rfl rfl
theorem t1777 : Cond.code ⟨"TemperCellarModel", "pour", "(II)I"⟩ prog_12_method_90_code 6 (some FieldType.int) ∈ T0 := T0_k8 97 rfl rfl
theorem t1778 : Cond.methodLink "TemperCellarLaw" 115 ⟨"TemperCellarModel", "ripe", "(II)I"⟩ ∈ T0 := T0_k8 98 rfl rfl
theorem t1779 : Cond.instanceMethod ⟨"TemperCellarModel", "ripe", "(II)I"⟩ ∈ T0 := T0_k8 99 rfl rfl
theorem t1780 : Cond.selects "TemperCellarModel" ⟨"TemperCellarModel", "ripe", "(II)I"⟩ ⟨"TemperCellarModel", "ripe", "(II)I"⟩ ∈ T0 := T0_k8 100 rfl rfl
theorem t1781 : Cond.code ⟨"TemperCellarModel", "ripe", "(II)I"⟩ prog_12_method_91_code 4 (some FieldType.int) ∈ T0 := T0_k8 101 rfl rfl
theorem t1782 : Cond.methodLink "TemperCellarLaw" 119 ⟨"TemperCellarModel", "dowry", "(II)I"⟩ ∈ T0 := T0_k8 102 rfl rfl
theorem t1783 : Cond.instanceMethod ⟨"TemperCellarModel", "dowry", "(II)I"⟩ ∈ T0 := T0_k8 103 rfl rfl
theorem t1784 : Cond.selects "TemperCellarModel" ⟨"TemperCellarModel", "dowry", "(II)I"⟩ ⟨"TemperCellarModel", "dowry", "(II)I"⟩ ∈ T0 := T0_k8 104 rfl rfl
theorem t1785 : Cond.code ⟨"TemperCellarModel", "dowry", "(II)I"⟩ prog_12_method_92_code 8 (some FieldType.int) ∈ T0 := T0_k8 105 rfl rfl
theorem t1786 : Cond.methodLink "TemperCellarModel" 468 ⟨"java/lang/Math", "abs", "(I)I"⟩ ∈ T0 := T0_k8 106 rfl rfl
theorem t1787 : Cond.methodLink "TemperCellarLaw" 123 ⟨"TemperCellarModel", "ring", "()I"⟩ ∈ T0 := T0_k8 107 rfl rfl
theorem t1788 : Cond.instanceMethod ⟨"TemperCellarModel", "ring", "()I"⟩ ∈ T0 := T0_k8 108 rfl rfl
theorem t1789 : Cond.selects "TemperCellarModel" ⟨"TemperCellarModel", "ring", "()I"⟩ ⟨"TemperCellarModel", "ring", "()I"⟩ ∈ T0 := T0_k8 109 rfl rfl
theorem t1790 : Cond.code ⟨"TemperCellarModel", "ring", "()I"⟩ prog_12_method_95_code 3 (some FieldType.int) ∈ T0 := T0_k8 110 rfl rfl
theorem t1791 : Cond.methodLink "TemperCellarModel" 473 ⟨"TemperCellarModel", "comesBack", "(I)Z"⟩ ∈ T0 := T0_k8 111 rfl rfl
theorem t1793 : Cond.instanceMethod ⟨"TemperCellarModel", "comesBack", "(I)Z"⟩ ∈ T0 := T0_k8 113 rfl rfl
theorem t1794 : Cond.code ⟨"TemperCellarModel", "comesBack", "(I)Z"⟩ prog_12_method_94_code 5 (some FieldType.boolean) ∈ T0 := T0_k8 114 rfl rfl
theorem t1795 : Cond.methodLink "TemperCellarModel" 470 ⟨"TemperCellarModel", "strongest", "(I)I"⟩ ∈ T0 := T0_k8 115 rfl rfl
theorem t1797 : Cond.instanceMethod ⟨"TemperCellarModel", "strongest", "(I)I"⟩ ∈ T0 := T0_k8 117 rfl rfl
theorem t1798 : Cond.code ⟨"TemperCellarModel", "strongest", "(I)I"⟩ prog_12_method_93_code 4 (some FieldType.int) ∈ T0 := T0_k8 118 rfl rfl
theorem t1799 : Cond.methodLink "TemperCellarLaw" 127 ⟨"TemperCellarModel", "rests", "(II)I"⟩ ∈ T0 := T0_k8 119 rfl rfl
theorem t1800 : Cond.instanceMethod ⟨"TemperCellarModel", "rests", "(II)I"⟩ ∈ T0 := T0_k8 120 rfl rfl
theorem t1801 : Cond.selects "TemperCellarModel" ⟨"TemperCellarModel", "rests", "(II)I"⟩ ⟨"TemperCellarModel", "rests", "(II)I"⟩ ∈ T0 := T0_k8 121 rfl rfl
theorem t1802 : Cond.code ⟨"TemperCellarModel", "rests", "(II)I"⟩ prog_12_method_101_code 3 (some FieldType.int) ∈ T0 := T0_k8 122 rfl rfl
theorem t1803 : Cond.methodLink "TemperCellarModel" 487 ⟨"TemperCellarModel", "areTwo", "(II)Z"⟩ ∈ T0 := T0_k8 123 rfl rfl
theorem t1805 : Cond.instanceMethod ⟨"TemperCellarModel", "areTwo", "(II)Z"⟩ ∈ T0 := T0_k8 125 rfl rfl
theorem t1806 : Cond.code ⟨"TemperCellarModel", "areTwo", "(II)Z"⟩ prog_12_method_100_code 3 (some FieldType.boolean) ∈ T0 := T0_k8 126 rfl rfl
theorem t1807 : Cond.methodLink "TemperCellarModel" 490 ⟨"TemperCellarModel", "restOf", "(III)I"⟩ ∈ T0 := T0_k8 127 rfl rfl
theorem t1809 : Cond.instanceMethod ⟨"TemperCellarModel", "restOf", "(III)I"⟩ ∈ T0 := T0_k8 129 rfl rfl
theorem t1810 : Cond.code ⟨"TemperCellarModel", "restOf", "(III)I"⟩ prog_12_method_99_code 6 (some FieldType.int) ∈ T0 := T0_k8 130 rfl rfl
theorem t1811 : Cond.methodLink "TemperCellarModel" 483 ⟨"TemperCellarModel", "isRest", "(III)Z"⟩ ∈ T0 := T0_k8 131 rfl rfl
theorem t1813 : Cond.instanceMethod ⟨"TemperCellarModel", "isRest", "(III)Z"⟩ ∈ T0 := T0_k8 133 rfl rfl
theorem t1814 : Cond.code ⟨"TemperCellarModel", "isRest", "(III)Z"⟩ prog_12_method_98_code 6 (some FieldType.boolean) ∈ T0 := T0_k8 134 rfl rfl
theorem t1815 : Cond.methodLink "TemperCellarModel" 479 ⟨"TemperCellarModel", "hasOf", "(IIII)I"⟩ ∈ T0 := T0_k8 135 rfl rfl
theorem t1817 : Cond.instanceMethod ⟨"TemperCellarModel", "hasOf", "(IIII)I"⟩ ∈ T0 := T0_k8 137 rfl rfl
theorem t1818 : Cond.code ⟨"TemperCellarModel", "hasOf", "(IIII)I"⟩ prog_12_method_97_code 7 (some FieldType.int) ∈ T0 := T0_k8 138 rfl rfl
theorem t1819 : Cond.methodLink "TemperCellarModel" 476 ⟨"TemperCellarModel", "angerOf", "(I)I"⟩ ∈ T0 := T0_k8 139 rfl rfl
theorem t1821 : Cond.instanceMethod ⟨"TemperCellarModel", "angerOf", "(I)I"⟩ ∈ T0 := T0_k8 141 rfl rfl
theorem t1822 : Cond.code ⟨"TemperCellarModel", "angerOf", "(I)I"⟩ prog_12_method_96_code 3 (some FieldType.int) ∈ T0 := T0_k8 142 rfl rfl
theorem t1823 : Cond.methodLink "TemperCellarLaw" 131 ⟨"TemperCellarModel", "rest", "(III)I"⟩ ∈ T0 := T0_k8 143 rfl rfl
theorem t1824 : Cond.instanceMethod ⟨"TemperCellarModel", "rest", "(III)I"⟩ ∈ T0 := T0_k8 144 rfl rfl
theorem t1825 : Cond.selects "TemperCellarModel" ⟨"TemperCellarModel", "rest", "(III)I"⟩ ⟨"TemperCellarModel", "rest", "(III)I"⟩ ∈ T0 := T0_k8 145 rfl rfl
theorem t1826 : Cond.code ⟨"TemperCellarModel", "rest", "(III)I"⟩ prog_12_method_102_code 4 (some FieldType.int) ∈ T0 := T0_k8 146 rfl rfl
theorem t1827 : Cond.methodLink "TemperCellarLaw" 136 ⟨"TemperCellarModel", "lasts", "(III)J"⟩ ∈ T0 := T0_k8 147 rfl rfl
theorem t1828 : Cond.instanceMethod ⟨"TemperCellarModel", "lasts", "(III)J"⟩ ∈ T0 := T0_k8 148 rfl rfl
theorem t1829 : Cond.selects "TemperCellarModel" ⟨"TemperCellarModel", "lasts", "(III)J"⟩ ⟨"TemperCellarModel", "lasts", "(III)J"⟩ ∈ T0 := T0_k8 149 rfl rfl
theorem t1830 : Cond.code ⟨"TemperCellarModel", "lasts", "(III)J"⟩ prog_12_method_105_code 10 (some FieldType.long) ∈ T0 := T0_k8 150 rfl rfl
theorem t1831 : Cond.constantLong "TemperCellarModel" 494 (-1 : Int64) ∈ T0 := T0_k8 151 rfl rfl
theorem t1832 : Cond.methodLink "TemperCellarModel" 496 ⟨"TemperCellarModel", "waysOf", "(II)J"⟩ ∈ T0 := T0_k8 152 rfl rfl
theorem t1834 : Cond.instanceMethod ⟨"TemperCellarModel", "waysOf", "(II)J"⟩ ∈ T0 := T0_k8 154 rfl rfl
theorem t1835 : Cond.code ⟨"TemperCellarModel", "waysOf", "(II)J"⟩ prog_12_method_104_code 6 (some FieldType.long) ∈ T0 := T0_k8 155 rfl rfl
theorem t1836 : Cond.constantLong "TemperCellarModel" 500 (100 : Int64) ∈ T0 := T0_k8 156 rfl rfl
theorem t1837 : Cond.methodLink "TemperCellarModel" 502 ⟨"TemperCellarModel", "common", "(JJ)J"⟩ ∈ T0 := T0_k8 157 rfl rfl
theorem t1838 : Cond.static ⟨"TemperCellarModel", "common", "(JJ)J"⟩ ∈ T0 := T0_k8 158 rfl rfl
theorem t1839 : Cond.code ⟨"TemperCellarModel", "common", "(JJ)J"⟩ prog_12_method_103_code 10 (some FieldType.long) ∈ T0 := T0_k8 159 rfl rfl
theorem t1840 : Cond.methodLink "TemperCellarLaw" 141 ⟨"TemperCellarModel", "see", "(IIZ)I"⟩ ∈ T0 := T0_k8 160 rfl rfl
theorem t1841 : Cond.instanceMethod ⟨"TemperCellarModel", "see", "(IIZ)I"⟩ ∈ T0 := T0_k8 161 rfl rfl
theorem t1842 : Cond.selects "TemperCellarModel" ⟨"TemperCellarModel", "see", "(IIZ)I"⟩ ⟨"TemperCellarModel", "see", "(IIZ)I"⟩ ∈ T0 := T0_k8 162 rfl rfl
theorem t1843 : Cond.code ⟨"TemperCellarModel", "see", "(IIZ)I"⟩ prog_12_method_106_code 4 (some FieldType.int) ∈ T0 := T0_k8 163 rfl rfl
theorem t1844 : Cond.methodLink "TemperCellarLaw" 145 ⟨"TemperCellarModel", "out", "(I)I"⟩ ∈ T0 := T0_k8 164 rfl rfl
theorem t1845 : Cond.instanceMethod ⟨"TemperCellarModel", "out", "(I)I"⟩ ∈ T0 := T0_k8 165 rfl rfl
theorem t1846 : Cond.selects "TemperCellarModel" ⟨"TemperCellarModel", "out", "(I)I"⟩ ⟨"TemperCellarModel", "out", "(I)I"⟩ ∈ T0 := T0_k8 166 rfl rfl
theorem t1847 : Cond.code ⟨"TemperCellarModel", "out", "(I)I"⟩ prog_12_method_107_code 2 (some FieldType.int) ∈ T0 := T0_k8 167 rfl rfl
theorem t1848 : Cond.methodLink "TemperCellarLaw" 150 ⟨"TemperCellarModel", "known", "(I)Z"⟩ ∈ T0 := T0_k8 168 rfl rfl
theorem t1849 : Cond.instanceMethod ⟨"TemperCellarModel", "known", "(I)Z"⟩ ∈ T0 := T0_k8 169 rfl rfl
theorem t1850 : Cond.selects "TemperCellarModel" ⟨"TemperCellarModel", "known", "(I)Z"⟩ ⟨"TemperCellarModel", "known", "(I)Z"⟩ ∈ T0 := T0_k8 170 rfl rfl
theorem t1851 : Cond.code ⟨"TemperCellarModel", "known", "(I)Z"⟩ prog_12_method_108_code 2 (some FieldType.boolean) ∈ T0 := T0_k8 171 rfl rfl
theorem t1852 : Cond.methodLink "TemperCellarLaw" 154 ⟨"TemperCellarModel", "corks", "(I)I"⟩ ∈ T0 := T0_k8 172 rfl rfl
theorem t1853 : Cond.instanceMethod ⟨"TemperCellarModel", "corks", "(I)I"⟩ ∈ T0 := T0_k8 173 rfl rfl
theorem t1854 : Cond.selects "TemperCellarModel" ⟨"TemperCellarModel", "corks", "(I)I"⟩ ⟨"TemperCellarModel", "corks", "(I)I"⟩ ∈ T0 := T0_k8 174 rfl rfl
theorem t1855 : Cond.code ⟨"TemperCellarModel", "corks", "(I)I"⟩ prog_12_method_112_code 5 (some FieldType.int) ∈ T0 := T0_k8 175 rfl rfl
theorem t1856 : Cond.methodLink "TemperCellarModel" 505 ⟨"TemperCellarModel", "knownMany", "()I"⟩ ∈ T0 := T0_k8 176 rfl rfl
theorem t1858 : Cond.instanceMethod ⟨"TemperCellarModel", "knownMany", "()I"⟩ ∈ T0 := T0_k8 178 rfl rfl
theorem t1859 : Cond.code ⟨"TemperCellarModel", "knownMany", "()I"⟩ prog_12_method_109_code 1 (some FieldType.int) ∈ T0 := T0_k8 179 rfl rfl
theorem t1860 : Cond.methodLink "TemperCellarModel" 511 ⟨"TemperCellarModel", "fitsCork", "(III)Z"⟩ ∈ T0 := T0_k8 180 rfl rfl
theorem t1862 : Cond.instanceMethod ⟨"TemperCellarModel", "fitsCork", "(III)Z"⟩ ∈ T0 := T0_k8 182 rfl rfl
theorem t1863 : Cond.code ⟨"TemperCellarModel", "fitsCork", "(III)Z"⟩ prog_12_method_111_code 5 (some FieldType.boolean) ∈ T0 := T0_k8 183 rfl rfl
theorem t1864 : Cond.methodLink "TemperCellarModel" 508 ⟨"TemperCellarModel", "isSo", "(I)Z"⟩ ∈ T0 := T0_k8 184 rfl rfl
theorem t1866 : Cond.instanceMethod ⟨"TemperCellarModel", "isSo", "(I)Z"⟩ ∈ T0 := T0_k8 186 rfl rfl
theorem t1867 : Cond.code ⟨"TemperCellarModel", "isSo", "(I)Z"⟩ prog_12_method_110_code 3 (some FieldType.boolean) ∈ T0 := T0_k8 187 rfl rfl
theorem t1868 : Cond.methodLink "TemperCellarLaw" 158 ⟨"TemperCellarModel", "chance", "(III)I"⟩ ∈ T0 := T0_k8 188 rfl rfl
theorem t1869 : Cond.instanceMethod ⟨"TemperCellarModel", "chance", "(III)I"⟩ ∈ T0 := T0_k8 189 rfl rfl
theorem t1870 : Cond.selects "TemperCellarModel" ⟨"TemperCellarModel", "chance", "(III)I"⟩ ⟨"TemperCellarModel", "chance", "(III)I"⟩ ∈ T0 := T0_k8 190 rfl rfl
theorem t1871 : Cond.code ⟨"TemperCellarModel", "chance", "(III)I"⟩ prog_12_method_113_code 8 (some FieldType.int) ∈ T0 := T0_k8 191 rfl rfl
theorem t1872 : Cond.methodLink "TemperCellarLaw" 162 ⟨"TemperCellarModel", "tried", "(III)I"⟩ ∈ T0 := T0_k8 192 rfl rfl
theorem t1873 : Cond.instanceMethod ⟨"TemperCellarModel", "tried", "(III)I"⟩ ∈ T0 := T0_k8 193 rfl rfl
theorem t1874 : Cond.selects "TemperCellarModel" ⟨"TemperCellarModel", "tried", "(III)I"⟩ ⟨"TemperCellarModel", "tried", "(III)I"⟩ ∈ T0 := T0_k8 194 rfl rfl
theorem t1875 : Cond.code ⟨"TemperCellarModel", "tried", "(III)I"⟩ prog_12_method_114_code 6 (some FieldType.int) ∈ T0 := T0_k8 195 rfl rfl
theorem t1876 : Cond.methodLink "TemperCellarLaw" 166 ⟨"TemperCellarModel", "undo", "()I"⟩ ∈ T0 := T0_k8 196 rfl rfl
theorem t1877 : Cond.instanceMethod ⟨"TemperCellarModel", "undo", "()I"⟩ ∈ T0 := T0_k8 197 rfl rfl
theorem t1878 : Cond.selects "TemperCellarModel" ⟨"TemperCellarModel", "undo", "()I"⟩ ⟨"TemperCellarModel", "undo", "()I"⟩ ∈ T0 := T0_k8 198 rfl rfl
theorem t1879 : Cond.code ⟨"TemperCellarModel", "undo", "()I"⟩ prog_12_method_115_code 1 (some FieldType.int) ∈ T0 := T0_k8 199 rfl rfl
theorem t1880 : Cond.methodLink "TemperCellarLaw" 170 ⟨"TemperCellarModel", "keep", "()I"⟩ ∈ T0 := T0_k8 200 rfl rfl
theorem t1881 : Cond.instanceMethod ⟨"TemperCellarModel", "keep", "()I"⟩ ∈ T0 := T0_k8 201 rfl rfl
theorem t1882 : Cond.selects "TemperCellarModel" ⟨"TemperCellarModel", "keep", "()I"⟩ ⟨"TemperCellarModel", "keep", "()I"⟩ ∈ T0 := T0_k8 202 rfl rfl
theorem t1883 : Cond.code ⟨"TemperCellarModel", "keep", "()I"⟩ prog_12_method_116_code 1 (some FieldType.int) ∈ T0 := T0_k8 203 rfl rfl
theorem t1884 : Cond.methodLink "TemperCellarLaw" 174 ⟨"TemperCellarModel", "back", "()I"⟩ ∈ T0 := T0_k8 204 rfl rfl
theorem t1885 : Cond.instanceMethod ⟨"TemperCellarModel", "back", "()I"⟩ ∈ T0 := T0_k8 205 rfl rfl
theorem t1886 : Cond.selects "TemperCellarModel" ⟨"TemperCellarModel", "back", "()I"⟩ ⟨"TemperCellarModel", "back", "()I"⟩ ∈ T0 := T0_k8 206 rfl rfl
theorem t1887 : Cond.code ⟨"TemperCellarModel", "back", "()I"⟩ prog_12_method_117_code 1 (some FieldType.int) ∈ T0 := T0_k8 207 rfl rfl
theorem t1888 : Cond.methodLink "TemperCellarLaw" 178 ⟨"TemperCellarModel", "count", "(I)I"⟩ ∈ T0 := T0_k8 208 rfl rfl
theorem t1889 : Cond.instanceMethod ⟨"TemperCellarModel", "count", "(I)I"⟩ ∈ T0 := T0_k8 209 rfl rfl
theorem t1890 : Cond.selects "TemperCellarModel" ⟨"TemperCellarModel", "count", "(I)I"⟩ ⟨"TemperCellarModel", "count", "(I)I"⟩ ∈ T0 := T0_k8 210 rfl rfl
theorem t1891 : Cond.code ⟨"TemperCellarModel", "count", "(I)I"⟩ prog_12_method_118_code 2 (some FieldType.int) ∈ T0 := T0_k8 211 rfl rfl
theorem t1908 : Cond.fieldLink "java/lang/String" 9 "java/lang/String" "value" "[B" ∈ T0 := T0_k8 228 rfl rfl
theorem t1909 : Cond.fieldLink "java/lang/String" 15 "java/lang/String" "coder" "B" ∈ T0 := T0_k8 229 rfl rfl
theorem ts0 : Cond.selects "TemperCellar" ⟨"TemperCellar", "putBytes", "(I)V"⟩ ⟨"TemperCellar", "putBytes", "(I)V"⟩ ∈ T0 := T0_sel (q := (⟨"TemperCellar", "putBytes", "(I)V"⟩, 15)) (List.mem_of_getElem? (i := 0) (by decide +kernel))
theorem ts1 : Cond.selects "TemperCellar$Tokens" ⟨"TemperCellar$Tokens", "readOne", "(I)V"⟩ ⟨"TemperCellar$Tokens", "readOne", "(I)V"⟩ ∈ T0 := T0_sel (q := (⟨"TemperCellar$Tokens", "readOne", "(I)V"⟩, 6)) (List.mem_of_getElem? (i := 1) (by decide +kernel))
theorem ts2 : Cond.selects "TemperCellar$Tokens" ⟨"TemperCellar$Tokens", "readNumber", "(I)V"⟩ ⟨"TemperCellar$Tokens", "readNumber", "(I)V"⟩ ∈ T0 := T0_sel (q := (⟨"TemperCellar$Tokens", "readNumber", "(I)V"⟩, 6)) (List.mem_of_getElem? (i := 2) (by decide +kernel))
theorem ts3 : Cond.selects "TemperCellar$Tokens" ⟨"TemperCellar$Tokens", "readWord", "(I)V"⟩ ⟨"TemperCellar$Tokens", "readWord", "(I)V"⟩ ∈ T0 := T0_sel (q := (⟨"TemperCellar$Tokens", "readWord", "(I)V"⟩, 6)) (List.mem_of_getElem? (i := 3) (by decide +kernel))
theorem ts4 : Cond.selects "TemperCellar$Tokens" ⟨"TemperCellar$Tokens", "wordFrom", "(II)I"⟩ ⟨"TemperCellar$Tokens", "wordFrom", "(II)I"⟩ ∈ T0 := T0_sel (q := (⟨"TemperCellar$Tokens", "wordFrom", "(II)I"⟩, 6)) (List.mem_of_getElem? (i := 4) (by decide +kernel))
theorem ts5 : Cond.selects "TemperCellar$Tokens" ⟨"TemperCellar$Tokens", "isAlike", "(III)Z"⟩ ⟨"TemperCellar$Tokens", "isAlike", "(III)Z"⟩ ∈ T0 := T0_sel (q := (⟨"TemperCellar$Tokens", "isAlike", "(III)Z"⟩, 6)) (List.mem_of_getElem? (i := 5) (by decide +kernel))
theorem ts6 : Cond.selects "TemperCellar$Reader" ⟨"TemperCellar$Reader", "kind", "()I"⟩ ⟨"TemperCellar$Reader", "kind", "()I"⟩ ∈ T0 := T0_sel (q := (⟨"TemperCellar$Reader", "kind", "()I"⟩, 7)) (List.mem_of_getElem? (i := 6) (by decide +kernel))
theorem ts7 : Cond.selects "TemperCellar$Reader" ⟨"TemperCellar$Reader", "readLine", "()V"⟩ ⟨"TemperCellar$Reader", "readLine", "()V"⟩ ∈ T0 := T0_sel (q := (⟨"TemperCellar$Reader", "readLine", "()V"⟩, 7)) (List.mem_of_getElem? (i := 7) (by decide +kernel))
theorem ts8 : Cond.selects "TemperCellar$Reader" ⟨"TemperCellar$Reader", "readMan", "()V"⟩ ⟨"TemperCellar$Reader", "readMan", "()V"⟩ ∈ T0 := T0_sel (q := (⟨"TemperCellar$Reader", "readMan", "()V"⟩, 7)) (List.mem_of_getElem? (i := 8) (by decide +kernel))
theorem ts9 : Cond.selects "TemperCellar$Reader" ⟨"TemperCellar$Reader", "refuse", "(I)V"⟩ ⟨"TemperCellar$Reader", "refuse", "(I)V"⟩ ∈ T0 := T0_sel (q := (⟨"TemperCellar$Reader", "refuse", "(I)V"⟩, 7)) (List.mem_of_getElem? (i := 9) (by decide +kernel))
theorem ts10 : Cond.selects "TemperCellar$Reader" ⟨"TemperCellar$Reader", "step", "()V"⟩ ⟨"TemperCellar$Reader", "step", "()V"⟩ ∈ T0 := T0_sel (q := (⟨"TemperCellar$Reader", "step", "()V"⟩, 7)) (List.mem_of_getElem? (i := 10) (by decide +kernel))
theorem ts11 : Cond.selects "TemperCellar$Reader" ⟨"TemperCellar$Reader", "value", "()I"⟩ ⟨"TemperCellar$Reader", "value", "()I"⟩ ∈ T0 := T0_sel (q := (⟨"TemperCellar$Reader", "value", "()I"⟩, 7)) (List.mem_of_getElem? (i := 11) (by decide +kernel))
theorem ts12 : Cond.selects "TemperCellar$Reader" ⟨"TemperCellar$Reader", "takeNewName", "(I)I"⟩ ⟨"TemperCellar$Reader", "takeNewName", "(I)I"⟩ ∈ T0 := T0_sel (q := (⟨"TemperCellar$Reader", "takeNewName", "(I)I"⟩, 7)) (List.mem_of_getElem? (i := 12) (by decide +kernel))
theorem ts13 : Cond.selects "TemperCellar$Reader" ⟨"TemperCellar$Reader", "take", "(I)V"⟩ ⟨"TemperCellar$Reader", "take", "(I)V"⟩ ∈ T0 := T0_sel (q := (⟨"TemperCellar$Reader", "take", "(I)V"⟩, 7)) (List.mem_of_getElem? (i := 13) (by decide +kernel))
theorem ts14 : Cond.selects "TemperCellar$Reader" ⟨"TemperCellar$Reader", "takeNumber", "(II)I"⟩ ⟨"TemperCellar$Reader", "takeNumber", "(II)I"⟩ ∈ T0 := T0_sel (q := (⟨"TemperCellar$Reader", "takeNumber", "(II)I"⟩, 7)) (List.mem_of_getElem? (i := 14) (by decide +kernel))
theorem ts15 : Cond.selects "TemperCellar$Reader" ⟨"TemperCellar$Reader", "readBottle", "()V"⟩ ⟨"TemperCellar$Reader", "readBottle", "()V"⟩ ∈ T0 := T0_sel (q := (⟨"TemperCellar$Reader", "readBottle", "()V"⟩, 7)) (List.mem_of_getElem? (i := 15) (by decide +kernel))
theorem ts16 : Cond.selects "TemperCellar$Reader" ⟨"TemperCellar$Reader", "takePerson", "(I)I"⟩ ⟨"TemperCellar$Reader", "takePerson", "(I)I"⟩ ∈ T0 := T0_sel (q := (⟨"TemperCellar$Reader", "takePerson", "(I)I"⟩, 7)) (List.mem_of_getElem? (i := 16) (by decide +kernel))
theorem ts17 : Cond.selects "TemperCellar$Reader" ⟨"TemperCellar$Reader", "readNeed", "()V"⟩ ⟨"TemperCellar$Reader", "readNeed", "()V"⟩ ∈ T0 := T0_sel (q := (⟨"TemperCellar$Reader", "readNeed", "()V"⟩, 7)) (List.mem_of_getElem? (i := 17) (by decide +kernel))
theorem ts18 : Cond.selects "TemperCellar$Reader" ⟨"TemperCellar$Reader", "readThunder", "()V"⟩ ⟨"TemperCellar$Reader", "readThunder", "()V"⟩ ∈ T0 := T0_sel (q := (⟨"TemperCellar$Reader", "readThunder", "()V"⟩, 7)) (List.mem_of_getElem? (i := 18) (by decide +kernel))
theorem ts19 : Cond.selects "TemperCellar$Reader" ⟨"TemperCellar$Reader", "readSeed", "()V"⟩ ⟨"TemperCellar$Reader", "readSeed", "()V"⟩ ∈ T0 := T0_sel (q := (⟨"TemperCellar$Reader", "readSeed", "()V"⟩, 7)) (List.mem_of_getElem? (i := 19) (by decide +kernel))
theorem ts20 : Cond.selects "TemperCellar$Reader" ⟨"TemperCellar$Reader", "readLaw", "()V"⟩ ⟨"TemperCellar$Reader", "readLaw", "()V"⟩ ∈ T0 := T0_sel (q := (⟨"TemperCellar$Reader", "readLaw", "()V"⟩, 7)) (List.mem_of_getElem? (i := 20) (by decide +kernel))
theorem ts21 : Cond.selects "TemperCellar$Reader" ⟨"TemperCellar$Reader", "readLevel", "(II)V"⟩ ⟨"TemperCellar$Reader", "readLevel", "(II)V"⟩ ∈ T0 := T0_sel (q := (⟨"TemperCellar$Reader", "readLevel", "(II)V"⟩, 7)) (List.mem_of_getElem? (i := 21) (by decide +kernel))
theorem ts22 : Cond.selects "TemperCellar$Reader" ⟨"TemperCellar$Reader", "readNot", "(I)V"⟩ ⟨"TemperCellar$Reader", "readNot", "(I)V"⟩ ∈ T0 := T0_sel (q := (⟨"TemperCellar$Reader", "readNot", "(I)V"⟩, 7)) (List.mem_of_getElem? (i := 22) (by decide +kernel))
theorem ts23 : Cond.selects "TemperCellar$Reader" ⟨"TemperCellar$Reader", "takeKnot", "()V"⟩ ⟨"TemperCellar$Reader", "takeKnot", "()V"⟩ ∈ T0 := T0_sel (q := (⟨"TemperCellar$Reader", "takeKnot", "()V"⟩, 7)) (List.mem_of_getElem? (i := 23) (by decide +kernel))
theorem ts24 : Cond.selects "TemperCellar$Reader" ⟨"TemperCellar$Reader", "readPart", "(I)V"⟩ ⟨"TemperCellar$Reader", "readPart", "(I)V"⟩ ∈ T0 := T0_sel (q := (⟨"TemperCellar$Reader", "readPart", "(I)V"⟩, 7)) (List.mem_of_getElem? (i := 24) (by decide +kernel))
theorem ts25 : Cond.selects "TemperCellar" ⟨"TemperCellar", "isPerson", "(I)Z"⟩ ⟨"TemperCellar", "isPerson", "(I)Z"⟩ ∈ T0 := T0_sel (q := (⟨"TemperCellar", "isPerson", "(I)Z"⟩, 15)) (List.mem_of_getElem? (i := 25) (by decide +kernel))
theorem ts26 : Cond.selects "TemperCellar" ⟨"TemperCellar", "lyingOf", "(I)I"⟩ ⟨"TemperCellar", "lyingOf", "(I)I"⟩ ∈ T0 := T0_sel (q := (⟨"TemperCellar", "lyingOf", "(I)I"⟩, 15)) (List.mem_of_getElem? (i := 26) (by decide +kernel))
theorem ts27 : Cond.selects "TemperCellar" ⟨"TemperCellar", "forceOf", "(I)I"⟩ ⟨"TemperCellar", "forceOf", "(I)I"⟩ ∈ T0 := T0_sel (q := (⟨"TemperCellar", "forceOf", "(I)I"⟩, 15)) (List.mem_of_getElem? (i := 27) (by decide +kernel))
theorem ts28 : Cond.selects "TemperCellar" ⟨"TemperCellar", "isNeed", "(I)Z"⟩ ⟨"TemperCellar", "isNeed", "(I)Z"⟩ ∈ T0 := T0_sel (q := (⟨"TemperCellar", "isNeed", "(I)Z"⟩, 15)) (List.mem_of_getElem? (i := 28) (by decide +kernel))
theorem ts29 : Cond.selects "TemperCellar" ⟨"TemperCellar", "isLyingBottle", "(I)Z"⟩ ⟨"TemperCellar", "isLyingBottle", "(I)Z"⟩ ∈ T0 := T0_sel (q := (⟨"TemperCellar", "isLyingBottle", "(I)Z"⟩, 15)) (List.mem_of_getElem? (i := 29) (by decide +kernel))
theorem ts30 : Cond.selects "TemperCellar" ⟨"TemperCellar", "isBottle", "(I)Z"⟩ ⟨"TemperCellar", "isBottle", "(I)Z"⟩ ∈ T0 := T0_sel (q := (⟨"TemperCellar", "isBottle", "(I)Z"⟩, 15)) (List.mem_of_getElem? (i := 30) (by decide +kernel))
theorem ts31 : Cond.selects "TemperCellar$Years" ⟨"TemperCellar$Years", "nameWorth", "(II)J"⟩ ⟨"TemperCellar$Years", "nameWorth", "(II)J"⟩ ∈ T0 := T0_sel (q := (⟨"TemperCellar$Years", "nameWorth", "(II)J"⟩, 7)) (List.mem_of_getElem? (i := 31) (by decide +kernel))
theorem ts32 : Cond.selects "TemperCellar$Undos" ⟨"TemperCellar$Undos", "forgetFirst", "()V"⟩ ⟨"TemperCellar$Undos", "forgetFirst", "()V"⟩ ∈ T0 := T0_sel (q := (⟨"TemperCellar$Undos", "forgetFirst", "()V"⟩, 4)) (List.mem_of_getElem? (i := 32) (by decide +kernel))
theorem ts33 : Cond.selects "TemperCellar$Years" ⟨"TemperCellar$Years", "isThundering", "()Z"⟩ ⟨"TemperCellar$Years", "isThundering", "()Z"⟩ ∈ T0 := T0_sel (q := (⟨"TemperCellar$Years", "isThundering", "()Z"⟩, 7)) (List.mem_of_getElem? (i := 33) (by decide +kernel))
theorem ts34 : Cond.selects "TemperCellar$Years" ⟨"TemperCellar$Years", "creep", "()V"⟩ ⟨"TemperCellar$Years", "creep", "()V"⟩ ∈ T0 := T0_sel (q := (⟨"TemperCellar$Years", "creep", "()V"⟩, 7)) (List.mem_of_getElem? (i := 34) (by decide +kernel))
theorem ts35 : Cond.selects "TemperCellar$Years" ⟨"TemperCellar$Years", "measure", "(II)I"⟩ ⟨"TemperCellar$Years", "measure", "(II)I"⟩ ∈ T0 := T0_sel (q := (⟨"TemperCellar$Years", "measure", "(II)I"⟩, 7)) (List.mem_of_getElem? (i := 35) (by decide +kernel))
theorem ts36 : Cond.selects "TemperCellar$Years" ⟨"TemperCellar$Years", "age", "()V"⟩ ⟨"TemperCellar$Years", "age", "()V"⟩ ∈ T0 := T0_sel (q := (⟨"TemperCellar$Years", "age", "()V"⟩, 7)) (List.mem_of_getElem? (i := 36) (by decide +kernel))
theorem ts37 : Cond.selects "TemperCellar$Years" ⟨"TemperCellar$Years", "bursts", "(I)Z"⟩ ⟨"TemperCellar$Years", "bursts", "(I)Z"⟩ ∈ T0 := T0_sel (q := (⟨"TemperCellar$Years", "bursts", "(I)Z"⟩, 7)) (List.mem_of_getElem? (i := 37) (by decide +kernel))
theorem ts38 : Cond.selects "TemperCellar$Years" ⟨"TemperCellar$Years", "meet", "(I)V"⟩ ⟨"TemperCellar$Years", "meet", "(I)V"⟩ ∈ T0 := T0_sel (q := (⟨"TemperCellar$Years", "meet", "(I)V"⟩, 7)) (List.mem_of_getElem? (i := 38) (by decide +kernel))
theorem ts39 : Cond.selects "TemperCellar$Years" ⟨"TemperCellar$Years", "weakest", "(IZ)I"⟩ ⟨"TemperCellar$Years", "weakest", "(IZ)I"⟩ ∈ T0 := T0_sel (q := (⟨"TemperCellar$Years", "weakest", "(IZ)I"⟩, 7)) (List.mem_of_getElem? (i := 39) (by decide +kernel))
theorem ts40 : Cond.selects "TemperCellar" ⟨"TemperCellar", "startTrial", "(I)V"⟩ ⟨"TemperCellar", "startTrial", "(I)V"⟩ ∈ T0 := T0_sel (q := (⟨"TemperCellar", "startTrial", "(I)V"⟩, 15)) (List.mem_of_getElem? (i := 40) (by decide +kernel))
theorem ts41 : Cond.selects "TemperCellar" ⟨"TemperCellar", "moreOff", "()I"⟩ ⟨"TemperCellar", "moreOff", "()I"⟩ ∈ T0 := T0_sel (q := (⟨"TemperCellar", "moreOff", "()I"⟩, 15)) (List.mem_of_getElem? (i := 41) (by decide +kernel))
theorem ts42 : Cond.selects "TemperCellar$Cellar" ⟨"TemperCellar$Cellar", "needsWith", "(I)I"⟩ ⟨"TemperCellar$Cellar", "needsWith", "(I)I"⟩ ∈ T0 := T0_sel (q := (⟨"TemperCellar$Cellar", "needsWith", "(I)I"⟩, 12)) (List.mem_of_getElem? (i := 42) (by decide +kernel))
theorem ts43 : Cond.selects "TemperCellar" ⟨"TemperCellar", "findRacked", "()I"⟩ ⟨"TemperCellar", "findRacked", "()I"⟩ ∈ T0 := T0_sel (q := (⟨"TemperCellar", "findRacked", "()I"⟩, 15)) (List.mem_of_getElem? (i := 43) (by decide +kernel))
theorem ts44 : Cond.selects "TemperCellar" ⟨"TemperCellar", "offIfRacked", "(IIII)I"⟩ ⟨"TemperCellar", "offIfRacked", "(IIII)I"⟩ ∈ T0 := T0_sel (q := (⟨"TemperCellar", "offIfRacked", "(IIII)I"⟩, 15)) (List.mem_of_getElem? (i := 44) (by decide +kernel))
theorem ts45 : Cond.selects "TemperCellar$Service" ⟨"TemperCellar$Service", "mostFrom", "(II)I"⟩ ⟨"TemperCellar$Service", "mostFrom", "(II)I"⟩ ∈ T0 := T0_sel (q := (⟨"TemperCellar$Service", "mostFrom", "(II)I"⟩, 4)) (List.mem_of_getElem? (i := 45) (by decide +kernel))
theorem ts46 : Cond.selects "TemperCellar$Service" ⟨"TemperCellar$Service", "endingFirst", "(II)I"⟩ ⟨"TemperCellar$Service", "endingFirst", "(II)I"⟩ ∈ T0 := T0_sel (q := (⟨"TemperCellar$Service", "endingFirst", "(II)I"⟩, 4)) (List.mem_of_getElem? (i := 46) (by decide +kernel))
theorem ts47 : Cond.selects "TemperCellar$Service" ⟨"TemperCellar$Service", "weakestFor", "(II)I"⟩ ⟨"TemperCellar$Service", "weakestFor", "(II)I"⟩ ∈ T0 := T0_sel (q := (⟨"TemperCellar$Service", "weakestFor", "(II)I"⟩, 4)) (List.mem_of_getElem? (i := 47) (by decide +kernel))
theorem ts48 : Cond.selects "TemperCellar$Service" ⟨"TemperCellar$Service", "fits", "(III)Z"⟩ ⟨"TemperCellar$Service", "fits", "(III)Z"⟩ ∈ T0 := T0_sel (q := (⟨"TemperCellar$Service", "fits", "(III)Z"⟩, 4)) (List.mem_of_getElem? (i := 48) (by decide +kernel))
theorem ts49 : Cond.selects "TemperCellar$Service" ⟨"TemperCellar$Service", "choose", "(III)I"⟩ ⟨"TemperCellar$Service", "choose", "(III)I"⟩ ∈ T0 := T0_sel (q := (⟨"TemperCellar$Service", "choose", "(III)I"⟩, 4)) (List.mem_of_getElem? (i := 49) (by decide +kernel))
theorem ts50 : Cond.selects "TemperCellar" ⟨"TemperCellar", "comesBack", "(I)Z"⟩ ⟨"TemperCellar", "comesBack", "(I)Z"⟩ ∈ T0 := T0_sel (q := (⟨"TemperCellar", "comesBack", "(I)Z"⟩, 15)) (List.mem_of_getElem? (i := 50) (by decide +kernel))
theorem ts51 : Cond.selects "TemperCellar" ⟨"TemperCellar", "strongestOf", "(I)I"⟩ ⟨"TemperCellar", "strongestOf", "(I)I"⟩ ∈ T0 := T0_sel (q := (⟨"TemperCellar", "strongestOf", "(I)I"⟩, 15)) (List.mem_of_getElem? (i := 51) (by decide +kernel))
theorem ts52 : Cond.selects "TemperCellar" ⟨"TemperCellar", "isRest", "(III)Z"⟩ ⟨"TemperCellar", "isRest", "(III)Z"⟩ ∈ T0 := T0_sel (q := (⟨"TemperCellar", "isRest", "(III)Z"⟩, 15)) (List.mem_of_getElem? (i := 52) (by decide +kernel))
theorem ts53 : Cond.selects "TemperCellar" ⟨"TemperCellar", "highestForceOf", "(I)I"⟩ ⟨"TemperCellar", "highestForceOf", "(I)I"⟩ ∈ T0 := T0_sel (q := (⟨"TemperCellar", "highestForceOf", "(I)I"⟩, 15)) (List.mem_of_getElem? (i := 53) (by decide +kernel))
theorem ts54 : Cond.selects "TemperCellar" ⟨"TemperCellar", "agreesWithSeen", "(III)Z"⟩ ⟨"TemperCellar", "agreesWithSeen", "(III)Z"⟩ ∈ T0 := T0_sel (q := (⟨"TemperCellar", "agreesWithSeen", "(III)Z"⟩, 15)) (List.mem_of_getElem? (i := 54) (by decide +kernel))
theorem ts55 : Cond.selects "java/lang/Throwable" ⟨"java/lang/Throwable", "fillInStackTrace", "(I)Ljava/lang/Throwable;"⟩ ⟨"java/lang/Throwable", "fillInStackTrace", "(I)Ljava/lang/Throwable;"⟩ ∈ T0 := T0_sel (q := (⟨"java/lang/Throwable", "fillInStackTrace", "(I)Ljava/lang/Throwable;"⟩, 6)) (List.mem_of_getElem? (i := 55) (by decide +kernel))
theorem ts56 : Cond.selects "TemperCellarModel" ⟨"TemperCellarModel", "begins", "()V"⟩ ⟨"TemperCellarModel", "begins", "()V"⟩ ∈ T0 := T0_sel (q := (⟨"TemperCellarModel", "begins", "()V"⟩, 64)) (List.mem_of_getElem? (i := 56) (by decide +kernel))
theorem ts57 : Cond.selects "TemperCellarModel" ⟨"TemperCellarModel", "starts", "(I)V"⟩ ⟨"TemperCellarModel", "starts", "(I)V"⟩ ∈ T0 := T0_sel (q := (⟨"TemperCellarModel", "starts", "(I)V"⟩, 64)) (List.mem_of_getElem? (i := 57) (by decide +kernel))
theorem ts58 : Cond.selects "TemperCellarModel" ⟨"TemperCellarModel", "reads", "(II)V"⟩ ⟨"TemperCellarModel", "reads", "(II)V"⟩ ∈ T0 := T0_sel (q := (⟨"TemperCellarModel", "reads", "(II)V"⟩, 64)) (List.mem_of_getElem? (i := 58) (by decide +kernel))
theorem ts59 : Cond.selects "TemperCellarModel" ⟨"TemperCellarModel", "token", "()V"⟩ ⟨"TemperCellarModel", "token", "()V"⟩ ∈ T0 := T0_sel (q := (⟨"TemperCellarModel", "token", "()V"⟩, 64)) (List.mem_of_getElem? (i := 59) (by decide +kernel))
theorem ts60 : Cond.selects "TemperCellarModel" ⟨"TemperCellarModel", "here", "()I"⟩ ⟨"TemperCellarModel", "here", "()I"⟩ ∈ T0 := T0_sel (q := (⟨"TemperCellarModel", "here", "()I"⟩, 64)) (List.mem_of_getElem? (i := 60) (by decide +kernel))
theorem ts61 : Cond.selects "TemperCellarModel" ⟨"TemperCellarModel", "word", "()I"⟩ ⟨"TemperCellarModel", "word", "()I"⟩ ∈ T0 := T0_sel (q := (⟨"TemperCellarModel", "word", "()I"⟩, 64)) (List.mem_of_getElem? (i := 61) (by decide +kernel))
theorem ts62 : Cond.selects "TemperCellarModel" ⟨"TemperCellarModel", "name", "()V"⟩ ⟨"TemperCellarModel", "name", "()V"⟩ ∈ T0 := T0_sel (q := (⟨"TemperCellarModel", "name", "()V"⟩, 64)) (List.mem_of_getElem? (i := 62) (by decide +kernel))
theorem ts63 : Cond.selects "TemperCellarModel" ⟨"TemperCellarModel", "sign", "(I)V"⟩ ⟨"TemperCellarModel", "sign", "(I)V"⟩ ∈ T0 := T0_sel (q := (⟨"TemperCellarModel", "sign", "(I)V"⟩, 64)) (List.mem_of_getElem? (i := 63) (by decide +kernel))
theorem ts64 : Cond.selects "TemperCellarModel" ⟨"TemperCellarModel", "line", "()V"⟩ ⟨"TemperCellarModel", "line", "()V"⟩ ∈ T0 := T0_sel (q := (⟨"TemperCellarModel", "line", "()V"⟩, 64)) (List.mem_of_getElem? (i := 64) (by decide +kernel))
theorem ts65 : Cond.selects "TemperCellarModel" ⟨"TemperCellarModel", "wrong", "(I)V"⟩ ⟨"TemperCellarModel", "wrong", "(I)V"⟩ ∈ T0 := T0_sel (q := (⟨"TemperCellarModel", "wrong", "(I)V"⟩, 64)) (List.mem_of_getElem? (i := 65) (by decide +kernel))
theorem ts66 : Cond.selects "TemperCellarModel" ⟨"TemperCellarModel", "isFull", "(I)Z"⟩ ⟨"TemperCellarModel", "isFull", "(I)Z"⟩ ∈ T0 := T0_sel (q := (⟨"TemperCellarModel", "isFull", "(I)Z"⟩, 64)) (List.mem_of_getElem? (i := 66) (by decide +kernel))
theorem ts67 : Cond.selects "TemperCellarModel" ⟨"TemperCellarModel", "fresher", "(I)I"⟩ ⟨"TemperCellarModel", "fresher", "(I)I"⟩ ∈ T0 := T0_sel (q := (⟨"TemperCellarModel", "fresher", "(I)I"⟩, 64)) (List.mem_of_getElem? (i := 67) (by decide +kernel))
theorem ts68 : Cond.selects "TemperCellarModel" ⟨"TemperCellarModel", "fresh", "([III)I"⟩ ⟨"TemperCellarModel", "fresh", "([III)I"⟩ ∈ T0 := T0_sel (q := (⟨"TemperCellarModel", "fresh", "([III)I"⟩, 64)) (List.mem_of_getElem? (i := 68) (by decide +kernel))
theorem ts69 : Cond.selects "TemperCellarModel" ⟨"TemperCellarModel", "numeral", "(II)I"⟩ ⟨"TemperCellarModel", "numeral", "(II)I"⟩ ∈ T0 := T0_sel (q := (⟨"TemperCellarModel", "numeral", "(II)I"⟩, 64)) (List.mem_of_getElem? (i := 69) (by decide +kernel))
theorem ts70 : Cond.selects "TemperCellarModel" ⟨"TemperCellarModel", "bottleLine", "(I)V"⟩ ⟨"TemperCellarModel", "bottleLine", "(I)V"⟩ ∈ T0 := T0_sel (q := (⟨"TemperCellarModel", "bottleLine", "(I)V"⟩, 64)) (List.mem_of_getElem? (i := 70) (by decide +kernel))
theorem ts71 : Cond.selects "TemperCellarModel" ⟨"TemperCellarModel", "manAhead", "()I"⟩ ⟨"TemperCellarModel", "manAhead", "()I"⟩ ∈ T0 := T0_sel (q := (⟨"TemperCellarModel", "manAhead", "()I"⟩, 64)) (List.mem_of_getElem? (i := 71) (by decide +kernel))
theorem ts72 : Cond.selects "TemperCellarModel" ⟨"TemperCellarModel", "manAtHand", "()I"⟩ ⟨"TemperCellarModel", "manAtHand", "()I"⟩ ∈ T0 := T0_sel (q := (⟨"TemperCellarModel", "manAtHand", "()I"⟩, 64)) (List.mem_of_getElem? (i := 72) (by decide +kernel))
theorem ts73 : Cond.selects "TemperCellarModel" ⟨"TemperCellarModel", "goOn", "()V"⟩ ⟨"TemperCellarModel", "goOn", "()V"⟩ ∈ T0 := T0_sel (q := (⟨"TemperCellarModel", "goOn", "()V"⟩, 64)) (List.mem_of_getElem? (i := 73) (by decide +kernel))
theorem ts74 : Cond.selects "TemperCellarModel" ⟨"TemperCellarModel", "lawLine", "()V"⟩ ⟨"TemperCellarModel", "lawLine", "()V"⟩ ∈ T0 := T0_sel (q := (⟨"TemperCellarModel", "lawLine", "()V"⟩, 64)) (List.mem_of_getElem? (i := 74) (by decide +kernel))
theorem ts75 : Cond.selects "TemperCellarModel" ⟨"TemperCellarModel", "expression", "()V"⟩ ⟨"TemperCellarModel", "expression", "()V"⟩ ∈ T0 := T0_sel (q := (⟨"TemperCellarModel", "expression", "()V"⟩, 64)) (List.mem_of_getElem? (i := 75) (by decide +kernel))
theorem ts76 : Cond.selects "TemperCellarModel" ⟨"TemperCellarModel", "conjunction", "()V"⟩ ⟨"TemperCellarModel", "conjunction", "()V"⟩ ∈ T0 := T0_sel (q := (⟨"TemperCellarModel", "conjunction", "()V"⟩, 64)) (List.mem_of_getElem? (i := 76) (by decide +kernel))
theorem ts77 : Cond.selects "TemperCellarModel" ⟨"TemperCellarModel", "negation", "()V"⟩ ⟨"TemperCellarModel", "negation", "()V"⟩ ∈ T0 := T0_sel (q := (⟨"TemperCellarModel", "negation", "()V"⟩, 64)) (List.mem_of_getElem? (i := 77) (by decide +kernel))
theorem ts78 : Cond.selects "TemperCellarModel" ⟨"TemperCellarModel", "isWord", "(I)Z"⟩ ⟨"TemperCellarModel", "isWord", "(I)Z"⟩ ∈ T0 := T0_sel (q := (⟨"TemperCellarModel", "isWord", "(I)Z"⟩, 64)) (List.mem_of_getElem? (i := 78) (by decide +kernel))
theorem ts79 : Cond.selects "TemperCellarModel" ⟨"TemperCellarModel", "knot", "()V"⟩ ⟨"TemperCellarModel", "knot", "()V"⟩ ∈ T0 := T0_sel (q := (⟨"TemperCellarModel", "knot", "()V"⟩, 64)) (List.mem_of_getElem? (i := 79) (by decide +kernel))
theorem ts80 : Cond.selects "TemperCellarModel" ⟨"TemperCellarModel", "puts", "(II)V"⟩ ⟨"TemperCellarModel", "puts", "(II)V"⟩ ∈ T0 := T0_sel (q := (⟨"TemperCellarModel", "puts", "(II)V"⟩, 64)) (List.mem_of_getElem? (i := 80) (by decide +kernel))
theorem ts81 : Cond.selects "TemperCellarModel" ⟨"TemperCellarModel", "sum", "()V"⟩ ⟨"TemperCellarModel", "sum", "()V"⟩ ∈ T0 := T0_sel (q := (⟨"TemperCellarModel", "sum", "()V"⟩, 64)) (List.mem_of_getElem? (i := 81) (by decide +kernel))
theorem ts82 : Cond.selects "TemperCellarModel" ⟨"TemperCellarModel", "product", "()V"⟩ ⟨"TemperCellarModel", "product", "()V"⟩ ∈ T0 := T0_sel (q := (⟨"TemperCellarModel", "product", "()V"⟩, 64)) (List.mem_of_getElem? (i := 82) (by decide +kernel))
theorem ts83 : Cond.selects "TemperCellarModel" ⟨"TemperCellarModel", "primary", "()V"⟩ ⟨"TemperCellarModel", "primary", "()V"⟩ ∈ T0 := T0_sel (q := (⟨"TemperCellarModel", "primary", "()V"⟩, 64)) (List.mem_of_getElem? (i := 83) (by decide +kernel))
theorem ts84 : Cond.selects "TemperCellarModel" ⟨"TemperCellarModel", "isSign", "(I)Z"⟩ ⟨"TemperCellarModel", "isSign", "(I)Z"⟩ ∈ T0 := T0_sel (q := (⟨"TemperCellarModel", "isSign", "(I)Z"⟩, 64)) (List.mem_of_getElem? (i := 84) (by decide +kernel))
theorem ts85 : Cond.selects "TemperCellarModel" ⟨"TemperCellarModel", "isBottle", "(I)Z"⟩ ⟨"TemperCellarModel", "isBottle", "(I)Z"⟩ ∈ T0 := T0_sel (q := (⟨"TemperCellarModel", "isBottle", "(I)Z"⟩, 64)) (List.mem_of_getElem? (i := 85) (by decide +kernel))
theorem ts86 : Cond.selects "TemperCellarModel" ⟨"TemperCellarModel", "isMan", "(I)Z"⟩ ⟨"TemperCellarModel", "isMan", "(I)Z"⟩ ∈ T0 := T0_sel (q := (⟨"TemperCellarModel", "isMan", "(I)Z"⟩, 64)) (List.mem_of_getElem? (i := 86) (by decide +kernel))
theorem ts87 : Cond.selects "TemperCellarModel" ⟨"TemperCellarModel", "ownSet", "(I)I"⟩ ⟨"TemperCellarModel", "ownSet", "(I)I"⟩ ∈ T0 := T0_sel (q := (⟨"TemperCellarModel", "ownSet", "(I)I"⟩, 64)) (List.mem_of_getElem? (i := 87) (by decide +kernel))
theorem ts88 : Cond.selects "TemperCellarModel" ⟨"TemperCellarModel", "isLying", "(II)Z"⟩ ⟨"TemperCellarModel", "isLying", "(II)Z"⟩ ∈ T0 := T0_sel (q := (⟨"TemperCellarModel", "isLying", "(II)Z"⟩, 64)) (List.mem_of_getElem? (i := 88) (by decide +kernel))
theorem ts89 : Cond.selects "TemperCellarModel" ⟨"TemperCellarModel", "forceIn", "(I)I"⟩ ⟨"TemperCellarModel", "forceIn", "(I)I"⟩ ∈ T0 := T0_sel (q := (⟨"TemperCellarModel", "forceIn", "(I)I"⟩, 64)) (List.mem_of_getElem? (i := 89) (by decide +kernel))
theorem ts90 : Cond.selects "TemperCellarModel" ⟨"TemperCellarModel", "isNeed", "(I)Z"⟩ ⟨"TemperCellarModel", "isNeed", "(I)Z"⟩ ∈ T0 := T0_sel (q := (⟨"TemperCellarModel", "isNeed", "(I)Z"⟩, 64)) (List.mem_of_getElem? (i := 90) (by decide +kernel))
theorem ts91 : Cond.selects "TemperCellarModel" ⟨"TemperCellarModel", "hasLaw", "(I)Z"⟩ ⟨"TemperCellarModel", "hasLaw", "(I)Z"⟩ ∈ T0 := T0_sel (q := (⟨"TemperCellarModel", "hasLaw", "(I)Z"⟩, 64)) (List.mem_of_getElem? (i := 91) (by decide +kernel))
theorem ts92 : Cond.selects "TemperCellarModel" ⟨"TemperCellarModel", "isLyingNow", "(I)Z"⟩ ⟨"TemperCellarModel", "isLyingNow", "(I)Z"⟩ ∈ T0 := T0_sel (q := (⟨"TemperCellarModel", "isLyingNow", "(I)Z"⟩, 64)) (List.mem_of_getElem? (i := 92) (by decide +kernel))
theorem ts93 : Cond.selects "TemperCellarModel" ⟨"TemperCellarModel", "calls", "(II)V"⟩ ⟨"TemperCellarModel", "calls", "(II)V"⟩ ∈ T0 := T0_sel (q := (⟨"TemperCellarModel", "calls", "(II)V"⟩, 64)) (List.mem_of_getElem? (i := 93) (by decide +kernel))
theorem ts94 : Cond.selects "TemperCellarModel" ⟨"TemperCellarModel", "hatedOf", "(II)I"⟩ ⟨"TemperCellarModel", "hatedOf", "(II)I"⟩ ∈ T0 := T0_sel (q := (⟨"TemperCellarModel", "hatedOf", "(II)I"⟩, 64)) (List.mem_of_getElem? (i := 94) (by decide +kernel))
theorem ts95 : Cond.selects "TemperCellarModel" ⟨"TemperCellarModel", "loadOf", "(II)I"⟩ ⟨"TemperCellarModel", "loadOf", "(II)I"⟩ ∈ T0 := T0_sel (q := (⟨"TemperCellarModel", "loadOf", "(II)I"⟩, 64)) (List.mem_of_getElem? (i := 95) (by decide +kernel))
theorem ts96 : Cond.selects "TemperCellarModel" ⟨"TemperCellarModel", "goes", "(I)Z"⟩ ⟨"TemperCellarModel", "goes", "(I)Z"⟩ ∈ T0 := T0_sel (q := (⟨"TemperCellarModel", "goes", "(I)Z"⟩, 64)) (List.mem_of_getElem? (i := 96) (by decide +kernel))
theorem ts97 : Cond.selects "TemperCellarModel" ⟨"TemperCellarModel", "works", "(I)Z"⟩ ⟨"TemperCellarModel", "works", "(I)Z"⟩ ∈ T0 := T0_sel (q := (⟨"TemperCellarModel", "works", "(I)Z"⟩, 64)) (List.mem_of_getElem? (i := 97) (by decide +kernel))
theorem ts98 : Cond.selects "TemperCellarModel" ⟨"TemperCellarModel", "keepNow", "()V"⟩ ⟨"TemperCellarModel", "keepNow", "()V"⟩ ∈ T0 := T0_sel (q := (⟨"TemperCellarModel", "keepNow", "()V"⟩, 64)) (List.mem_of_getElem? (i := 98) (by decide +kernel))
theorem ts99 : Cond.selects "TemperCellarModel" ⟨"TemperCellarModel", "copies", "(II)V"⟩ ⟨"TemperCellarModel", "copies", "(II)V"⟩ ∈ T0 := T0_sel (q := (⟨"TemperCellarModel", "copies", "(II)V"⟩, 64)) (List.mem_of_getElem? (i := 99) (by decide +kernel))
theorem ts100 : Cond.selects "TemperCellarModel" ⟨"TemperCellarModel", "passes", "(IZ)V"⟩ ⟨"TemperCellarModel", "passes", "(IZ)V"⟩ ∈ T0 := T0_sel (q := (⟨"TemperCellarModel", "passes", "(IZ)V"⟩, 64)) (List.mem_of_getElem? (i := 100) (by decide +kernel))
theorem ts101 : Cond.selects "TemperCellarModel" ⟨"TemperCellarModel", "doesThunder", "(IZ)Z"⟩ ⟨"TemperCellarModel", "doesThunder", "(IZ)Z"⟩ ∈ T0 := T0_sel (q := (⟨"TemperCellarModel", "doesThunder", "(IZ)Z"⟩, 64)) (List.mem_of_getElem? (i := 101) (by decide +kernel))
theorem ts102 : Cond.selects "TemperCellarModel" ⟨"TemperCellarModel", "creeps", "(I)V"⟩ ⟨"TemperCellarModel", "creeps", "(I)V"⟩ ∈ T0 := T0_sel (q := (⟨"TemperCellarModel", "creeps", "(I)V"⟩, 64)) (List.mem_of_getElem? (i := 102) (by decide +kernel))
theorem ts103 : Cond.selects "TemperCellarModel" ⟨"TemperCellarModel", "within", "(II)I"⟩ ⟨"TemperCellarModel", "within", "(II)I"⟩ ∈ T0 := T0_sel (q := (⟨"TemperCellarModel", "within", "(II)I"⟩, 64)) (List.mem_of_getElem? (i := 103) (by decide +kernel))
theorem ts104 : Cond.selects "TemperCellarModel" ⟨"TemperCellarModel", "goesOff", "(II)V"⟩ ⟨"TemperCellarModel", "goesOff", "(II)V"⟩ ∈ T0 := T0_sel (q := (⟨"TemperCellarModel", "goesOff", "(II)V"⟩, 64)) (List.mem_of_getElem? (i := 104) (by decide +kernel))
theorem ts105 : Cond.selects "TemperCellarModel" ⟨"TemperCellarModel", "isSetOff", "(II)Z"⟩ ⟨"TemperCellarModel", "isSetOff", "(II)Z"⟩ ∈ T0 := T0_sel (q := (⟨"TemperCellarModel", "isSetOff", "(II)Z"⟩, 64)) (List.mem_of_getElem? (i := 105) (by decide +kernel))
theorem ts106 : Cond.selects "TemperCellarModel" ⟨"TemperCellarModel", "comes", "(II)V"⟩ ⟨"TemperCellarModel", "comes", "(II)V"⟩ ∈ T0 := T0_sel (q := (⟨"TemperCellarModel", "comes", "(II)V"⟩, 64)) (List.mem_of_getElem? (i := 106) (by decide +kernel))
theorem ts107 : Cond.selects "TemperCellarModel" ⟨"TemperCellarModel", "weakest", "(IIZ)I"⟩ ⟨"TemperCellarModel", "weakest", "(IIZ)I"⟩ ∈ T0 := T0_sel (q := (⟨"TemperCellarModel", "weakest", "(IIZ)I"⟩, 64)) (List.mem_of_getElem? (i := 107) (by decide +kernel))
theorem ts108 : Cond.selects "TemperCellarModel" ⟨"TemperCellarModel", "runs", "(I)V"⟩ ⟨"TemperCellarModel", "runs", "(I)V"⟩ ∈ T0 := T0_sel (q := (⟨"TemperCellarModel", "runs", "(I)V"⟩, 64)) (List.mem_of_getElem? (i := 108) (by decide +kernel))
theorem ts109 : Cond.selects "TemperCellarModel" ⟨"TemperCellarModel", "goesOn", "(I)V"⟩ ⟨"TemperCellarModel", "goesOn", "(I)V"⟩ ∈ T0 := T0_sel (q := (⟨"TemperCellarModel", "goesOn", "(I)V"⟩, 64)) (List.mem_of_getElem? (i := 109) (by decide +kernel))
theorem ts110 : Cond.selects "TemperCellarModel" ⟨"TemperCellarModel", "manyOf", "(II)I"⟩ ⟨"TemperCellarModel", "manyOf", "(II)I"⟩ ∈ T0 := T0_sel (q := (⟨"TemperCellarModel", "manyOf", "(II)I"⟩, 64)) (List.mem_of_getElem? (i := 110) (by decide +kernel))
theorem ts111 : Cond.selects "TemperCellarModel" ⟨"TemperCellarModel", "needsOf", "(IZ)I"⟩ ⟨"TemperCellarModel", "needsOf", "(IZ)I"⟩ ∈ T0 := T0_sel (q := (⟨"TemperCellarModel", "needsOf", "(IZ)I"⟩, 64)) (List.mem_of_getElem? (i := 111) (by decide +kernel))
theorem ts112 : Cond.selects "TemperCellarModel" ⟨"TemperCellarModel", "hatesAll", "(I)I"⟩ ⟨"TemperCellarModel", "hatesAll", "(I)I"⟩ ∈ T0 := T0_sel (q := (⟨"TemperCellarModel", "hatesAll", "(I)I"⟩, 64)) (List.mem_of_getElem? (i := 112) (by decide +kernel))
theorem ts113 : Cond.selects "TemperCellarModel" ⟨"TemperCellarModel", "offMore", "()I"⟩ ⟨"TemperCellarModel", "offMore", "()I"⟩ ∈ T0 := T0_sel (q := (⟨"TemperCellarModel", "offMore", "()I"⟩, 64)) (List.mem_of_getElem? (i := 113) (by decide +kernel))
theorem ts114 : Cond.selects "TemperCellarModel" ⟨"TemperCellarModel", "layRacks", "(I)V"⟩ ⟨"TemperCellarModel", "layRacks", "(I)V"⟩ ∈ T0 := T0_sel (q := (⟨"TemperCellarModel", "layRacks", "(I)V"⟩, 64)) (List.mem_of_getElem? (i := 114) (by decide +kernel))
theorem ts115 : Cond.selects "TemperCellarModel" ⟨"TemperCellarModel", "layServe", "()V"⟩ ⟨"TemperCellarModel", "layServe", "()V"⟩ ∈ T0 := T0_sel (q := (⟨"TemperCellarModel", "layServe", "()V"⟩, 64)) (List.mem_of_getElem? (i := 115) (by decide +kernel))
theorem ts116 : Cond.selects "TemperCellarModel" ⟨"TemperCellarModel", "fits", "(II)Z"⟩ ⟨"TemperCellarModel", "fits", "(II)Z"⟩ ∈ T0 := T0_sel (q := (⟨"TemperCellarModel", "fits", "(II)Z"⟩, 64)) (List.mem_of_getElem? (i := 116) (by decide +kernel))
theorem ts117 : Cond.selects "TemperCellarModel" ⟨"TemperCellarModel", "servedBy", "(II)I"⟩ ⟨"TemperCellarModel", "servedBy", "(II)I"⟩ ∈ T0 := T0_sel (q := (⟨"TemperCellarModel", "servedBy", "(II)I"⟩, 64)) (List.mem_of_getElem? (i := 117) (by decide +kernel))
theorem ts118 : Cond.selects "TemperCellarModel" ⟨"TemperCellarModel", "comesBack", "(I)Z"⟩ ⟨"TemperCellarModel", "comesBack", "(I)Z"⟩ ∈ T0 := T0_sel (q := (⟨"TemperCellarModel", "comesBack", "(I)Z"⟩, 64)) (List.mem_of_getElem? (i := 118) (by decide +kernel))
theorem ts119 : Cond.selects "TemperCellarModel" ⟨"TemperCellarModel", "strongest", "(I)I"⟩ ⟨"TemperCellarModel", "strongest", "(I)I"⟩ ∈ T0 := T0_sel (q := (⟨"TemperCellarModel", "strongest", "(I)I"⟩, 64)) (List.mem_of_getElem? (i := 119) (by decide +kernel))
theorem ts120 : Cond.selects "TemperCellarModel" ⟨"TemperCellarModel", "areTwo", "(II)Z"⟩ ⟨"TemperCellarModel", "areTwo", "(II)Z"⟩ ∈ T0 := T0_sel (q := (⟨"TemperCellarModel", "areTwo", "(II)Z"⟩, 64)) (List.mem_of_getElem? (i := 120) (by decide +kernel))
theorem ts121 : Cond.selects "TemperCellarModel" ⟨"TemperCellarModel", "restOf", "(III)I"⟩ ⟨"TemperCellarModel", "restOf", "(III)I"⟩ ∈ T0 := T0_sel (q := (⟨"TemperCellarModel", "restOf", "(III)I"⟩, 64)) (List.mem_of_getElem? (i := 121) (by decide +kernel))
theorem ts122 : Cond.selects "TemperCellarModel" ⟨"TemperCellarModel", "isRest", "(III)Z"⟩ ⟨"TemperCellarModel", "isRest", "(III)Z"⟩ ∈ T0 := T0_sel (q := (⟨"TemperCellarModel", "isRest", "(III)Z"⟩, 64)) (List.mem_of_getElem? (i := 122) (by decide +kernel))
theorem ts123 : Cond.selects "TemperCellarModel" ⟨"TemperCellarModel", "hasOf", "(IIII)I"⟩ ⟨"TemperCellarModel", "hasOf", "(IIII)I"⟩ ∈ T0 := T0_sel (q := (⟨"TemperCellarModel", "hasOf", "(IIII)I"⟩, 64)) (List.mem_of_getElem? (i := 123) (by decide +kernel))
theorem ts124 : Cond.selects "TemperCellarModel" ⟨"TemperCellarModel", "angerOf", "(I)I"⟩ ⟨"TemperCellarModel", "angerOf", "(I)I"⟩ ∈ T0 := T0_sel (q := (⟨"TemperCellarModel", "angerOf", "(I)I"⟩, 64)) (List.mem_of_getElem? (i := 124) (by decide +kernel))
theorem ts125 : Cond.selects "TemperCellarModel" ⟨"TemperCellarModel", "waysOf", "(II)J"⟩ ⟨"TemperCellarModel", "waysOf", "(II)J"⟩ ∈ T0 := T0_sel (q := (⟨"TemperCellarModel", "waysOf", "(II)J"⟩, 64)) (List.mem_of_getElem? (i := 125) (by decide +kernel))
theorem ts126 : Cond.selects "TemperCellarModel" ⟨"TemperCellarModel", "knownMany", "()I"⟩ ⟨"TemperCellarModel", "knownMany", "()I"⟩ ∈ T0 := T0_sel (q := (⟨"TemperCellarModel", "knownMany", "()I"⟩, 64)) (List.mem_of_getElem? (i := 126) (by decide +kernel))
theorem ts127 : Cond.selects "TemperCellarModel" ⟨"TemperCellarModel", "fitsCork", "(III)Z"⟩ ⟨"TemperCellarModel", "fitsCork", "(III)Z"⟩ ∈ T0 := T0_sel (q := (⟨"TemperCellarModel", "fitsCork", "(III)Z"⟩, 64)) (List.mem_of_getElem? (i := 127) (by decide +kernel))
theorem ts128 : Cond.selects "TemperCellarModel" ⟨"TemperCellarModel", "isSo", "(I)Z"⟩ ⟨"TemperCellarModel", "isSo", "(I)Z"⟩ ∈ T0 := T0_sel (q := (⟨"TemperCellarModel", "isSo", "(I)Z"⟩, 64)) (List.mem_of_getElem? (i := 128) (by decide +kernel))
def m0_init : JM := (⟨"TemperCellar$Cellar", "<init>", "()V"⟩, prog_2_method_1_code, 1, none)
theorem m0_init_c : MC m0_init 0 := ⟨t250, t7, by decide +kernel, by decide⟩
theorem m0_init_i : MI m0_init 0 := ⟨m0_init_c, t249, rfl, rfl⟩
def m0_layDown : JM := (⟨"TemperCellar$Cellar", "layDown", "(LTemperCellar$Told;)V"⟩, prog_2_method_2_code, 3, none)
theorem m0_layDown_c : MC m0_layDown 1 := ⟨t422, t7, by decide +kernel, by decide⟩
theorem m0_layDown_v : MV m0_layDown 1 := ⟨m0_layDown_c, t420, t421⟩
def m0_copyFrom : JM := (⟨"TemperCellar$Cellar", "copyFrom", "(LTemperCellar$Cellar;)V"⟩, prog_2_method_3_code, 2, none)
theorem m0_copyFrom_c : MC m0_copyFrom 1 := ⟨t890, t7, by decide +kernel, by decide⟩
theorem m0_copyFrom_v : MV m0_copyFrom 1 := ⟨m0_copyFrom_c, t888, t889⟩
def m0_isLying : JM := (⟨"TemperCellar$Cellar", "isLying", "(I)Z"⟩, prog_2_method_4_code, 2, some .boolean)
theorem m0_isLying_c : MC m0_isLying 1 := ⟨t720, t7, by decide +kernel, by decide⟩
theorem m0_isLying_v : MV m0_isLying 1 := ⟨m0_isLying_c, t718, t719⟩
def m0_lie : JM := (⟨"TemperCellar$Cellar", "lie", "(I)V"⟩, prog_2_method_5_code, 2, none)
theorem m0_lie_c : MC m0_lie 1 := ⟨t427, t7, by decide +kernel, by decide⟩
theorem m0_lie_v : MV m0_lie 1 := ⟨m0_lie_c, t425, t426⟩
def m0_leave : JM := (⟨"TemperCellar$Cellar", "leave", "(II)V"⟩, prog_2_method_6_code, 3, none)
theorem m0_leave_c : MC m0_leave 2 := ⟨t810, t7, by decide +kernel, by decide⟩
theorem m0_leave_v : MV m0_leave 2 := ⟨m0_leave_c, t808, t809⟩
def m0_move : JM := (⟨"TemperCellar$Cellar", "move", "(II)V"⟩, prog_2_method_7_code, 3, none)
theorem m0_move_c : MC m0_move 2 := ⟨t798, t7, by decide +kernel, by decide⟩
theorem m0_move_v : MV m0_move 2 := ⟨m0_move_c, t796, t797⟩
def m0_hate : JM := (⟨"TemperCellar$Cellar", "hate", "(II)V"⟩, prog_2_method_8_code, 3, none)
theorem m0_hate_c : MC m0_hate 2 := ⟨t878, t7, by decide +kernel, by decide⟩
theorem m0_hate_v : MV m0_hate 2 := ⟨m0_hate_c, t876, t877⟩
def m0_bits : JM := (⟨"TemperCellar$Cellar", "bits", "(I)I"⟩, prog_2_method_9_code, 4, some .int)
theorem m0_bits_c : MC m0_bits 1 := ⟨t903, t7, by decide +kernel, by decide⟩
theorem m0_bits_v : MV m0_bits 1 := ⟨m0_bits_c, t901, t902⟩
def m0_howMany : JM := (⟨"TemperCellar$Cellar", "howMany", "(I)I"⟩, prog_2_method_10_code, 2, some .int)
theorem m0_howMany_c : MC m0_howMany 1 := ⟨t899, t7, by decide +kernel, by decide⟩
theorem m0_howMany_v : MV m0_howMany 1 := ⟨m0_howMany_c, t897, t898⟩
def m0_metNeeds : JM := (⟨"TemperCellar$Cellar", "metNeeds", "()I"⟩, prog_2_method_11_code, 1, some .int)
theorem m0_metNeeds_c : MC m0_metNeeds 0 := ⟨t908, t7, by decide +kernel, by decide⟩
theorem m0_metNeeds_v : MV m0_metNeeds 0 := ⟨m0_metNeeds_c, t906, t907⟩
def m0_unmetNeeds : JM := (⟨"TemperCellar$Cellar", "unmetNeeds", "()I"⟩, prog_2_method_12_code, 1, some .int)
theorem m0_unmetNeeds_c : MC m0_unmetNeeds 0 := ⟨t916, t7, by decide +kernel, by decide⟩
theorem m0_unmetNeeds_v : MV m0_unmetNeeds 0 := ⟨m0_unmetNeeds_c, t914, t915⟩
def m0_needsWith : JM := (⟨"TemperCellar$Cellar", "needsWith", "(I)I"⟩, prog_2_method_13_code, 4, some .int)
theorem m0_needsWith_c : MC m0_needsWith 1 := ⟨t912, t7, by decide +kernel, by decide⟩
theorem m0_needsWith_v : MV m0_needsWith 1 := ⟨m0_needsWith_c, t911, ts42⟩
def m0_hatingPairs : JM := (⟨"TemperCellar$Cellar", "hatingPairs", "()I"⟩, prog_2_method_14_code, 3, some .int)
theorem m0_hatingPairs_c : MC m0_hatingPairs 0 := ⟨t920, t7, by decide +kernel, by decide⟩
theorem m0_hatingPairs_v : MV m0_hatingPairs 0 := ⟨m0_hatingPairs_c, t918, t919⟩
def m1_init : JM := (⟨"TemperCellar$Laws", "<init>", "()V"⟩, prog_3_method_1_code, 1, none)
theorem m1_init_c : MC m1_init 0 := ⟨t43, t3, by decide +kernel, by decide⟩
theorem m1_init_i : MI m1_init 0 := ⟨m1_init_c, t42, rfl, rfl⟩
def m1_clear : JM := (⟨"TemperCellar$Laws", "clear", "()V"⟩, prog_3_method_2_code, 1, none)
theorem m1_clear_c : MC m1_clear 0 := ⟨t48, t3, by decide +kernel, by decide⟩
theorem m1_clear_v : MV m1_clear 0 := ⟨m1_clear_c, t46, t47⟩
def m1_isTold : JM := (⟨"TemperCellar$Laws", "isTold", "(I)Z"⟩, prog_3_method_3_code, 2, some .boolean)
theorem m1_isTold_c : MC m1_isTold 1 := ⟨t662, t3, by decide +kernel, by decide⟩
theorem m1_isTold_v : MV m1_isTold 1 := ⟨m1_isTold_c, t660, t661⟩
def m1_put : JM := (⟨"TemperCellar$Laws", "put", "(II)V"⟩, prog_3_method_4_code, 3, none)
theorem m1_put_c : MC m1_put 2 := ⟨t678, t3, by decide +kernel, by decide⟩
theorem m1_put_v : MV m1_put 2 := ⟨m1_put_c, t676, t677⟩
def m2_init : JM := (⟨"TemperCellar$Reader", "<init>", "(LTemperCellar$Tokens;LTemperCellar$Told;)V"⟩, prog_4_method_1_code, 3, none)
theorem m2_init_c : MC m2_init 2 := ⟨t220, t6, by decide +kernel, by decide⟩
theorem m2_init_i : MI m2_init 2 := ⟨m2_init_c, t219, rfl, rfl⟩
def m2_read : JM := (⟨"TemperCellar$Reader", "read", "(LTemperCellar$Told;)I"⟩, prog_4_method_2_code, 3, some .int)
theorem m2_read_c : MC m2_read 1 := ⟨t578, t6, by decide +kernel, by decide⟩
theorem m2_read_v : MV m2_read 1 := ⟨m2_read_c, t576, t577⟩
def m2_kind : JM := (⟨"TemperCellar$Reader", "kind", "()I"⟩, prog_4_method_3_code, 1, some .int)
theorem m2_kind_c : MC m2_kind 0 := ⟨t587, t6, by decide +kernel, by decide⟩
theorem m2_kind_v : MV m2_kind 0 := ⟨m2_kind_c, t586, ts6⟩
def m2_value : JM := (⟨"TemperCellar$Reader", "value", "()I"⟩, prog_4_method_4_code, 1, some .int)
theorem m2_value_c : MC m2_value 0 := ⟨t607, t6, by decide +kernel, by decide⟩
theorem m2_value_v : MV m2_value 0 := ⟨m2_value_c, t606, ts11⟩
def m2_step : JM := (⟨"TemperCellar$Reader", "step", "()V"⟩, prog_4_method_5_code, 1, none)
theorem m2_step_c : MC m2_step 0 := ⟨t603, t6, by decide +kernel, by decide⟩
theorem m2_step_v : MV m2_step 0 := ⟨m2_step_c, t602, ts10⟩
def m2_refuse : JM := (⟨"TemperCellar$Reader", "refuse", "(I)V"⟩, prog_4_method_6_code, 2, none)
theorem m2_refuse_c : MC m2_refuse 1 := ⟨t599, t6, by decide +kernel, by decide⟩
theorem m2_refuse_v : MV m2_refuse 1 := ⟨m2_refuse_c, t598, ts9⟩
def m2_readLine : JM := (⟨"TemperCellar$Reader", "readLine", "()V"⟩, prog_4_method_7_code, 1, none)
theorem m2_readLine_c : MC m2_readLine 0 := ⟨t591, t6, by decide +kernel, by decide⟩
theorem m2_readLine_v : MV m2_readLine 0 := ⟨m2_readLine_c, t590, ts7⟩
def m2_readMan : JM := (⟨"TemperCellar$Reader", "readMan", "()V"⟩, prog_4_method_8_code, 2, none)
theorem m2_readMan_c : MC m2_readMan 0 := ⟨t595, t6, by decide +kernel, by decide⟩
theorem m2_readMan_v : MV m2_readMan 0 := ⟨m2_readMan_c, t594, ts8⟩
def m2_readBottle : JM := (⟨"TemperCellar$Reader", "readBottle", "()V"⟩, prog_4_method_9_code, 2, none)
theorem m2_readBottle_c : MC m2_readBottle 0 := ⟨t633, t6, by decide +kernel, by decide⟩
theorem m2_readBottle_v : MV m2_readBottle 0 := ⟨m2_readBottle_c, t632, ts15⟩
def m2_readNeed : JM := (⟨"TemperCellar$Reader", "readNeed", "()V"⟩, prog_4_method_10_code, 2, none)
theorem m2_readNeed_c : MC m2_readNeed 0 := ⟨t645, t6, by decide +kernel, by decide⟩
theorem m2_readNeed_v : MV m2_readNeed 0 := ⟨m2_readNeed_c, t644, ts17⟩
def m2_readThunder : JM := (⟨"TemperCellar$Reader", "readThunder", "()V"⟩, prog_4_method_11_code, 1, none)
theorem m2_readThunder_c : MC m2_readThunder 0 := ⟨t649, t6, by decide +kernel, by decide⟩
theorem m2_readThunder_v : MV m2_readThunder 0 := ⟨m2_readThunder_c, t648, ts18⟩
def m2_readSeed : JM := (⟨"TemperCellar$Reader", "readSeed", "()V"⟩, prog_4_method_12_code, 1, none)
theorem m2_readSeed_c : MC m2_readSeed 0 := ⟨t653, t6, by decide +kernel, by decide⟩
theorem m2_readSeed_v : MV m2_readSeed 0 := ⟨m2_readSeed_c, t652, ts19⟩
def m2_readLaw : JM := (⟨"TemperCellar$Reader", "readLaw", "()V"⟩, prog_4_method_13_code, 2, none)
theorem m2_readLaw_c : MC m2_readLaw 0 := ⟨t658, t6, by decide +kernel, by decide⟩
theorem m2_readLaw_v : MV m2_readLaw 0 := ⟨m2_readLaw_c, t657, ts20⟩
def m2_take : JM := (⟨"TemperCellar$Reader", "take", "(I)V"⟩, prog_4_method_14_code, 2, none)
theorem m2_take_c : MC m2_take 1 := ⟨t622, t6, by decide +kernel, by decide⟩
theorem m2_take_v : MV m2_take 1 := ⟨m2_take_c, t621, ts13⟩
def m2_takeNumber : JM := (⟨"TemperCellar$Reader", "takeNumber", "(II)I"⟩, prog_4_method_15_code, 4, some .int)
theorem m2_takeNumber_c : MC m2_takeNumber 2 := ⟨t626, t6, by decide +kernel, by decide⟩
theorem m2_takeNumber_v : MV m2_takeNumber 2 := ⟨m2_takeNumber_c, t625, ts14⟩
def m2_takeNewName : JM := (⟨"TemperCellar$Reader", "takeNewName", "(I)I"⟩, prog_4_method_16_code, 3, some .int)
theorem m2_takeNewName_c : MC m2_takeNewName 1 := ⟨t618, t6, by decide +kernel, by decide⟩
theorem m2_takeNewName_v : MV m2_takeNewName 1 := ⟨m2_takeNewName_c, t617, ts12⟩
def m2_takePerson : JM := (⟨"TemperCellar$Reader", "takePerson", "(I)I"⟩, prog_4_method_17_code, 3, some .int)
theorem m2_takePerson_c : MC m2_takePerson 1 := ⟨t641, t6, by decide +kernel, by decide⟩
theorem m2_takePerson_v : MV m2_takePerson 1 := ⟨m2_takePerson_c, t640, ts16⟩
def m2_readLevel : JM := (⟨"TemperCellar$Reader", "readLevel", "(II)V"⟩, prog_4_method_18_code, 6, none)
theorem m2_readLevel_c : MC m2_readLevel 2 := ⟨t666, t6, by decide +kernel, by decide⟩
theorem m2_readLevel_v : MV m2_readLevel 2 := ⟨m2_readLevel_c, t665, ts21⟩
def m2_levelOf : JM := (⟨"TemperCellar$Reader", "levelOf", "(I)I"⟩, prog_4_method_19_code, 1, some .int)
theorem m2_levelOf_c : MC m2_levelOf 1 := ⟨t685, t6, by decide +kernel, by decide⟩
theorem m2_levelOf_s : MS m2_levelOf 1 := ⟨m2_levelOf_c, t684⟩
def m2_readNot : JM := (⟨"TemperCellar$Reader", "readNot", "(I)V"⟩, prog_4_method_20_code, 4, none)
theorem m2_readNot_c : MC m2_readNot 1 := ⟨t670, t6, by decide +kernel, by decide⟩
theorem m2_readNot_v : MV m2_readNot 1 := ⟨m2_readNot_c, t669, ts22⟩
def m2_readPart : JM := (⟨"TemperCellar$Reader", "readPart", "(I)V"⟩, prog_4_method_21_code, 4, none)
theorem m2_readPart_c : MC m2_readPart 1 := ⟨t682, t6, by decide +kernel, by decide⟩
theorem m2_readPart_v : MV m2_readPart 1 := ⟨m2_readPart_c, t681, ts24⟩
def m2_takeKnot : JM := (⟨"TemperCellar$Reader", "takeKnot", "()V"⟩, prog_4_method_22_code, 1, none)
theorem m2_takeKnot_c : MC m2_takeKnot 0 := ⟨t674, t6, by decide +kernel, by decide⟩
theorem m2_takeKnot_v : MV m2_takeKnot 0 := ⟨m2_takeKnot_c, t673, ts23⟩
def m3_init : JM := (⟨"TemperCellar$Seen", "<init>", "()V"⟩, prog_5_method_1_code, 1, none)
theorem m3_init_c : MC m3_init 0 := ⟨t368, t10, by decide +kernel, by decide⟩
theorem m3_init_i : MI m3_init 0 := ⟨m3_init_c, t367, rfl, rfl⟩
def m3_clear : JM := (⟨"TemperCellar$Seen", "clear", "()V"⟩, prog_5_method_2_code, 1, none)
theorem m3_clear_c : MC m3_clear 0 := ⟨t689, t10, by decide +kernel, by decide⟩
theorem m3_clear_v : MV m3_clear 0 := ⟨m3_clear_c, t687, t688⟩
def m3_add : JM := (⟨"TemperCellar$Seen", "add", "(IIZ)I"⟩, prog_5_method_3_code, 4, some .int)
theorem m3_add_c : MC m3_add 3 := ⟨t1049, t10, by decide +kernel, by decide⟩
theorem m3_add_v : MV m3_add 3 := ⟨m3_add_c, t1047, t1048⟩
def m3_addStrike : JM := (⟨"TemperCellar$Seen", "addStrike", "(I)I"⟩, prog_5_method_4_code, 3, some .int)
theorem m3_addStrike_c : MC m3_addStrike 1 := ⟨t1057, t10, by decide +kernel, by decide⟩
theorem m3_addStrike_v : MV m3_addStrike 1 := ⟨m3_addStrike_c, t1055, t1056⟩
def m3_knownCount : JM := (⟨"TemperCellar$Seen", "knownCount", "()I"⟩, prog_5_method_5_code, 1, some .int)
theorem m3_knownCount_c : MC m3_knownCount 0 := ⟨t1074, t10, by decide +kernel, by decide⟩
theorem m3_knownCount_v : MV m3_knownCount 0 := ⟨m3_knownCount_c, t1072, t1073⟩
def m3_markKnown : JM := (⟨"TemperCellar$Seen", "markKnown", "()V"⟩, prog_5_method_6_code, 4, none)
theorem m3_markKnown_c : MC m3_markKnown 0 := ⟨t1070, t10, by decide +kernel, by decide⟩
theorem m3_markKnown_v : MV m3_markKnown 0 := ⟨m3_markKnown_c, t1068, t1069⟩
def m3_lastKnownYear : JM := (⟨"TemperCellar$Seen", "lastKnownYear", "()I"⟩, prog_5_method_7_code, 4, some .int)
theorem m3_lastKnownYear_c : MC m3_lastKnownYear 0 := ⟨t1079, t10, by decide +kernel, by decide⟩
theorem m3_lastKnownYear_v : MV m3_lastKnownYear 0 := ⟨m3_lastKnownYear_c, t1077, t1078⟩
def m3_agrees : JM := (⟨"TemperCellar$Seen", "agrees", "(ILTemperCellar$Cellar;)Z"⟩, prog_5_method_8_code, 5, some .boolean)
theorem m3_agrees_c : MC m3_agrees 2 := ⟨t1088, t10, by decide +kernel, by decide⟩
theorem m3_agrees_v : MV m3_agrees 2 := ⟨m3_agrees_c, t1086, t1087⟩
def m4_init : JM := (⟨"TemperCellar$Service", "<init>", "(LTemperCellar$Told;LTemperCellar$Cellar;)V"⟩, prog_6_method_1_code, 3, none)
theorem m4_init_c : MC m4_init 2 := ⟨t402, t11, by decide +kernel, by decide⟩
theorem m4_init_i : MI m4_init 2 := ⟨m4_init_c, t401, rfl, rfl⟩
def m4_arrange : JM := (⟨"TemperCellar$Service", "arrange", "(LTemperCellar$Told;LTemperCellar$Cellar;)V"⟩, prog_6_method_2_code, 7, none)
theorem m4_arrange_c : MC m4_arrange 2 := ⟨t954, t11, by decide +kernel, by decide⟩
theorem m4_arrange_v : MV m4_arrange 2 := ⟨m4_arrange_c, t952, t953⟩
def m4_choose : JM := (⟨"TemperCellar$Service", "choose", "(III)I"⟩, prog_6_method_3_code, 5, some .int)
theorem m4_choose_c : MC m4_choose 3 := ⟨t976, t11, by decide +kernel, by decide⟩
theorem m4_choose_v : MV m4_choose 3 := ⟨m4_choose_c, t975, ts49⟩
def m4_fits : JM := (⟨"TemperCellar$Service", "fits", "(III)Z"⟩, prog_6_method_4_code, 4, some .boolean)
theorem m4_fits_c : MC m4_fits 3 := ⟨t971, t11, by decide +kernel, by decide⟩
theorem m4_fits_v : MV m4_fits 3 := ⟨m4_fits_c, t970, ts48⟩
def m4_mostFrom : JM := (⟨"TemperCellar$Service", "mostFrom", "(II)I"⟩, prog_6_method_5_code, 8, some .int)
theorem m4_mostFrom_c : MC m4_mostFrom 2 := ⟨t959, t11, by decide +kernel, by decide⟩
theorem m4_mostFrom_v : MV m4_mostFrom 2 := ⟨m4_mostFrom_c, t958, ts45⟩
def m4_endingFirst : JM := (⟨"TemperCellar$Service", "endingFirst", "(II)I"⟩, prog_6_method_6_code, 5, some .int)
theorem m4_endingFirst_c : MC m4_endingFirst 2 := ⟨t963, t11, by decide +kernel, by decide⟩
theorem m4_endingFirst_v : MV m4_endingFirst 2 := ⟨m4_endingFirst_c, t962, ts46⟩
def m4_weakestFor : JM := (⟨"TemperCellar$Service", "weakestFor", "(II)I"⟩, prog_6_method_7_code, 5, some .int)
theorem m4_weakestFor_c : MC m4_weakestFor 2 := ⟨t967, t11, by decide +kernel, by decide⟩
theorem m4_weakestFor_v : MV m4_weakestFor 2 := ⟨m4_weakestFor_c, t966, ts47⟩
def m5_init : JM := (⟨"TemperCellar$Tokens", "<init>", "([B)V"⟩, prog_7_method_1_code, 2, none)
theorem m5_init_c : MC m5_init 1 := ⟨t192, t5, by decide +kernel, by decide⟩
theorem m5_init_i : MI m5_init 1 := ⟨m5_init_c, t191, rfl, rfl⟩
def m5_readAll : JM := (⟨"TemperCellar$Tokens", "readAll", "(I)V"⟩, prog_7_method_2_code, 3, none)
theorem m5_readAll_c : MC m5_readAll 1 := ⟨t489, t5, by decide +kernel, by decide⟩
theorem m5_readAll_v : MV m5_readAll 1 := ⟨m5_readAll_c, t487, t488⟩
def m5_readOne : JM := (⟨"TemperCellar$Tokens", "readOne", "(I)V"⟩, prog_7_method_3_code, 3, none)
theorem m5_readOne_c : MC m5_readOne 1 := ⟨t496, t5, by decide +kernel, by decide⟩
theorem m5_readOne_v : MV m5_readOne 1 := ⟨m5_readOne_c, t495, ts1⟩
def m5_readNumber : JM := (⟨"TemperCellar$Tokens", "readNumber", "(I)V"⟩, prog_7_method_4_code, 3, none)
theorem m5_readNumber_c : MC m5_readNumber 1 := ⟨t503, t5, by decide +kernel, by decide⟩
theorem m5_readNumber_v : MV m5_readNumber 1 := ⟨m5_readNumber_c, t502, ts2⟩
def m5_readWord : JM := (⟨"TemperCellar$Tokens", "readWord", "(I)V"⟩, prog_7_method_5_code, 5, none)
theorem m5_readWord_c : MC m5_readWord 1 := ⟨t511, t5, by decide +kernel, by decide⟩
theorem m5_readWord_v : MV m5_readWord 1 := ⟨m5_readWord_c, t510, ts3⟩
def m5_wordFrom : JM := (⟨"TemperCellar$Tokens", "wordFrom", "(II)I"⟩, prog_7_method_6_code, 6, some .int)
theorem m5_wordFrom_c : MC m5_wordFrom 2 := ⟨t515, t5, by decide +kernel, by decide⟩
theorem m5_wordFrom_v : MV m5_wordFrom 2 := ⟨m5_wordFrom_c, t514, ts4⟩
def m5_isAlike : JM := (⟨"TemperCellar$Tokens", "isAlike", "(III)Z"⟩, prog_7_method_7_code, 5, some .boolean)
theorem m5_isAlike_c : MC m5_isAlike 3 := ⟨t568, t5, by decide +kernel, by decide⟩
theorem m5_isAlike_v : MV m5_isAlike 3 := ⟨m5_isAlike_c, t567, ts5⟩
def m5_signOf : JM := (⟨"TemperCellar$Tokens", "signOf", "(II)I"⟩, prog_7_method_8_code, 2, some .int)
theorem m5_signOf_c : MC m5_signOf 2 := ⟨t571, t5, by decide +kernel, by decide⟩
theorem m5_signOf_s : MS m5_signOf 2 := ⟨m5_signOf_c, t570⟩
def m5_isOfTwo : JM := (⟨"TemperCellar$Tokens", "isOfTwo", "(I)Z"⟩, prog_7_method_9_code, 1, some .boolean)
theorem m5_isOfTwo_c : MC m5_isOfTwo 1 := ⟨t574, t5, by decide +kernel, by decide⟩
theorem m5_isOfTwo_s : MS m5_isOfTwo 1 := ⟨m5_isOfTwo_c, t573⟩
def m5_isDigit : JM := (⟨"TemperCellar$Tokens", "isDigit", "(I)Z"⟩, prog_7_method_10_code, 1, some .boolean)
theorem m5_isDigit_c : MC m5_isDigit 1 := ⟨t499, t5, by decide +kernel, by decide⟩
theorem m5_isDigit_s : MS m5_isDigit 1 := ⟨m5_isDigit_c, t498⟩
def m5_isLetter : JM := (⟨"TemperCellar$Tokens", "isLetter", "(I)Z"⟩, prog_7_method_11_code, 1, some .boolean)
theorem m5_isLetter_c : MC m5_isLetter 1 := ⟨t507, t5, by decide +kernel, by decide⟩
theorem m5_isLetter_s : MS m5_isLetter 1 := ⟨m5_isLetter_c, t506⟩
def m6_init : JM := (⟨"TemperCellar$Told", "<init>", "()V"⟩, prog_8_method_1_code, 1, none)
theorem m6_init_c : MC m6_init 0 := ⟨t37, t2, by decide +kernel, by decide⟩
theorem m6_init_i : MI m6_init 0 := ⟨m6_init_c, t36, rfl, rfl⟩
def m6_clear : JM := (⟨"TemperCellar$Told", "clear", "()V"⟩, prog_8_method_2_code, 1, none)
theorem m6_clear_c : MC m6_clear 0 := ⟨t582, t2, by decide +kernel, by decide⟩
theorem m6_clear_v : MV m6_clear 0 := ⟨m6_clear_c, t580, t581⟩
def m6_personNamed : JM := (⟨"TemperCellar$Told", "personNamed", "(I)I"⟩, prog_8_method_3_code, 2, some .int)
theorem m6_personNamed_c : MC m6_personNamed 1 := ⟨t611, t2, by decide +kernel, by decide⟩
theorem m6_personNamed_v : MV m6_personNamed 1 := ⟨m6_personNamed_c, t609, t610⟩
def m6_bottleNamed : JM := (⟨"TemperCellar$Told", "bottleNamed", "(I)I"⟩, prog_8_method_4_code, 2, some .int)
theorem m6_bottleNamed_c : MC m6_bottleNamed 1 := ⟨t637, t2, by decide +kernel, by decide⟩
theorem m6_bottleNamed_v : MV m6_bottleNamed 1 := ⟨m6_bottleNamed_c, t635, t636⟩
def m6_placeOf : JM := (⟨"TemperCellar$Told", "placeOf", "(I[II)I"⟩, prog_8_method_5_code, 4, some .int)
theorem m6_placeOf_c : MC m6_placeOf 3 := ⟨t614, t2, by decide +kernel, by decide⟩
theorem m6_placeOf_s : MS m6_placeOf 3 := ⟨m6_placeOf_c, t613⟩
def m7_init : JM := (⟨"TemperCellar$Undos", "<init>", "()V"⟩, prog_9_method_1_code, 1, none)
theorem m7_init_c : MC m7_init 0 := ⟨t348, t9, by decide +kernel, by decide⟩
theorem m7_init_i : MI m7_init 0 := ⟨m7_init_c, t347, rfl, rfl⟩
def m7_clear : JM := (⟨"TemperCellar$Undos", "clear", "()V"⟩, prog_9_method_2_code, 1, none)
theorem m7_clear_c : MC m7_clear 0 := ⟨t693, t9, by decide +kernel, by decide⟩
theorem m7_clear_v : MV m7_clear 0 := ⟨m7_clear_c, t691, t692⟩
def m7_add : JM := (⟨"TemperCellar$Undos", "add", "(III)V"⟩, prog_9_method_3_code, 4, none)
theorem m7_add_c : MC m7_add 3 := ⟨t787, t9, by decide +kernel, by decide⟩
theorem m7_add_v : MV m7_add 3 := ⟨m7_add_c, t785, t786⟩
def m7_forgetFirst : JM := (⟨"TemperCellar$Undos", "forgetFirst", "()V"⟩, prog_9_method_4_code, 1, none)
theorem m7_forgetFirst_c : MC m7_forgetFirst 0 := ⟨t791, t9, by decide +kernel, by decide⟩
theorem m7_forgetFirst_v : MV m7_forgetFirst 0 := ⟨m7_forgetFirst_c, t790, ts32⟩
def m7_takeLatest : JM := (⟨"TemperCellar$Undos", "takeLatest", "(LTemperCellar$Cellar;)V"⟩, prog_9_method_5_code, 2, none)
theorem m7_takeLatest_c : MC m7_takeLatest 1 := ⟨t1105, t9, by decide +kernel, by decide⟩
theorem m7_takeLatest_v : MV m7_takeLatest 1 := ⟨m7_takeLatest_c, t1103, t1104⟩
def m8_init : JM := (⟨"TemperCellar$Years", "<init>", "(LTemperCellar$Told;LTemperCellar$Cellar;)V"⟩, prog_10_method_1_code, 3, none)
theorem m8_init_c : MC m8_init 2 := ⟨t317, t8, by decide +kernel, by decide⟩
theorem m8_init_i : MI m8_init 2 := ⟨m8_init_c, t316, rfl, rfl⟩
def m8_start : JM := (⟨"TemperCellar$Years", "start", "(LTemperCellar$Told;LTemperCellar$Cellar;I)V"⟩, prog_10_method_2_code, 4, none)
theorem m8_start_c : MC m8_start 3 := ⟨t762, t8, by decide +kernel, by decide⟩
theorem m8_start_v : MV m8_start 3 := ⟨m8_start_c, t760, t761⟩
def m8_pass : JM := (⟨"TemperCellar$Years", "pass", "(I)V"⟩, prog_10_method_3_code, 3, none)
theorem m8_pass_c : MC m8_pass 1 := ⟨t818, t8, by decide +kernel, by decide⟩
theorem m8_pass_v : MV m8_pass 1 := ⟨m8_pass_c, t816, t817⟩
def m8_passOne : JM := (⟨"TemperCellar$Years", "passOne", "()V"⟩, prog_10_method_4_code, 2, none)
theorem m8_passOne_c : MC m8_passOne 0 := ⟨t822, t8, by decide +kernel, by decide⟩
theorem m8_passOne_v : MV m8_passOne 0 := ⟨m8_passOne_c, t820, t821⟩
def m8_isThundering : JM := (⟨"TemperCellar$Years", "isThundering", "()Z"⟩, prog_10_method_5_code, 1, some .boolean)
theorem m8_isThundering_c : MC m8_isThundering 0 := ⟨t826, t8, by decide +kernel, by decide⟩
theorem m8_isThundering_v : MV m8_isThundering 0 := ⟨m8_isThundering_c, t825, ts33⟩
def m8_creep : JM := (⟨"TemperCellar$Years", "creep", "()V"⟩, prog_10_method_6_code, 2, none)
theorem m8_creep_c : MC m8_creep 0 := ⟨t835, t8, by decide +kernel, by decide⟩
theorem m8_creep_v : MV m8_creep 0 := ⟨m8_creep_c, t834, ts34⟩
def m8_age : JM := (⟨"TemperCellar$Years", "age", "()V"⟩, prog_10_method_7_code, 2, none)
theorem m8_age_c : MC m8_age 0 := ⟨t855, t8, by decide +kernel, by decide⟩
theorem m8_age_v : MV m8_age 0 := ⟨m8_age_c, t854, ts36⟩
def m8_measure : JM := (⟨"TemperCellar$Years", "measure", "(II)I"⟩, prog_10_method_8_code, 5, some .int)
theorem m8_measure_c : MC m8_measure 2 := ⟨t840, t8, by decide +kernel, by decide⟩
theorem m8_measure_v : MV m8_measure 2 := ⟨m8_measure_c, t839, ts35⟩
def m8_goOff : JM := (⟨"TemperCellar$Years", "goOff", "(I)V"⟩, prog_10_method_9_code, 6, none)
theorem m8_goOff_c : MC m8_goOff 1 := ⟨t860, t8, by decide +kernel, by decide⟩
theorem m8_goOff_v : MV m8_goOff 1 := ⟨m8_goOff_c, t858, t859⟩
def m8_bursts : JM := (⟨"TemperCellar$Years", "bursts", "(I)Z"⟩, prog_10_method_10_code, 4, some .boolean)
theorem m8_bursts_c : MC m8_bursts 1 := ⟨t865, t8, by decide +kernel, by decide⟩
theorem m8_bursts_v : MV m8_bursts 1 := ⟨m8_bursts_c, t864, ts37⟩
def m8_meet : JM := (⟨"TemperCellar$Years", "meet", "(I)V"⟩, prog_10_method_11_code, 5, none)
theorem m8_meet_c : MC m8_meet 1 := ⟨t869, t8, by decide +kernel, by decide⟩
theorem m8_meet_v : MV m8_meet 1 := ⟨m8_meet_c, t868, ts38⟩
def m8_weakest : JM := (⟨"TemperCellar$Years", "weakest", "(IZ)I"⟩, prog_10_method_12_code, 6, some .int)
theorem m8_weakest_c : MC m8_weakest 2 := ⟨t873, t8, by decide +kernel, by decide⟩
theorem m8_weakest_v : MV m8_weakest 2 := ⟨m8_weakest_c, t872, ts39⟩
def m8_worth : JM := (⟨"TemperCellar$Years", "worth", "(II)J"⟩, prog_10_method_13_code, 10, some .long)
theorem m8_worth_c : MC m8_worth 2 := ⟨t766, t8, by decide +kernel, by decide⟩
theorem m8_worth_v : MV m8_worth 2 := ⟨m8_worth_c, t764, t765⟩
def m8_nameWorth : JM := (⟨"TemperCellar$Years", "nameWorth", "(II)J"⟩, prog_10_method_14_code, 3, some .long)
theorem m8_nameWorth_c : MC m8_nameWorth 2 := ⟨t771, t8, by decide +kernel, by decide⟩
theorem m8_nameWorth_v : MV m8_nameWorth 2 := ⟨m8_nameWorth_c, t770, ts31⟩
def m8_joined : JM := (⟨"TemperCellar$Years", "joined", "(IJJ)J"⟩, prog_10_method_15_code, 5, some .long)
theorem m8_joined_c : MC m8_joined 3 := ⟨t774, t8, by decide +kernel, by decide⟩
theorem m8_joined_s : MS m8_joined 3 := ⟨m8_joined_c, t773⟩
def m8_product : JM := (⟨"TemperCellar$Years", "product", "(JJ)J"⟩, prog_10_method_16_code, 6, some .long)
theorem m8_product_c : MC m8_product 2 := ⟨t777, t8, by decide +kernel, by decide⟩
theorem m8_product_s : MS m8_product 2 := ⟨m8_product_c, t776⟩
def m9_init : JM := (⟨"TemperCellar", "<init>", "()V"⟩, prog_1_method_1_code, 1, none)
theorem m9_init_c : MC m9_init 0 := ⟨t29, t1, by decide +kernel, by decide⟩
theorem m9_init_i : MI m9_init 0 := ⟨m9_init_c, t28, rfl, rfl⟩
def m9_feed : JM := (⟨"TemperCellar", "feed", "(IIIII)I"⟩, prog_1_method_2_code, 6, some .int)
theorem m9_feed_c : MC m9_feed 5 := ⟨t477, t1, by decide +kernel, by decide⟩
theorem m9_feed_v : MV m9_feed 5 := ⟨m9_feed_c, t475, t476⟩
def m9_putBytes : JM := (⟨"TemperCellar", "putBytes", "(I)V"⟩, prog_1_method_3_code, 3, none)
theorem m9_putBytes_c : MC m9_putBytes 1 := ⟨t481, t1, by decide +kernel, by decide⟩
theorem m9_putBytes_v : MV m9_putBytes 1 := ⟨m9_putBytes_c, t480, ts0⟩
def m9_text : JM := (⟨"TemperCellar", "text", "(I)I"⟩, prog_1_method_4_code, 4, some .int)
theorem m9_text_c : MC m9_text 1 := ⟨t485, t1, by decide +kernel, by decide⟩
theorem m9_text_v : MV m9_text 1 := ⟨m9_text_c, t483, t484⟩
def m9_fault : JM := (⟨"TemperCellar", "fault", "(I)I"⟩, prog_1_method_5_code, 2, some .int)
theorem m9_fault_c : MC m9_fault 1 := ⟨t697, t1, by decide +kernel, by decide⟩
theorem m9_fault_v : MV m9_fault 1 := ⟨m9_fault_c, t695, t696⟩
def m9_named : JM := (⟨"TemperCellar", "named", "(II)I"⟩, prog_1_method_6_code, 3, some .int)
theorem m9_named_c : MC m9_named 2 := ⟨t701, t1, by decide +kernel, by decide⟩
theorem m9_named_v : MV m9_named 2 := ⟨m9_named_c, t699, t700⟩
def m9_bottle : JM := (⟨"TemperCellar", "bottle", "(II)I"⟩, prog_1_method_7_code, 3, some .int)
theorem m9_bottle_c : MC m9_bottle 2 := ⟨t1129, t1, by decide +kernel, by decide⟩
theorem m9_bottle_v : MV m9_bottle 2 := ⟨m9_bottle_c, t1127, t1128⟩
def m9_man : JM := (⟨"TemperCellar", "man", "(II)I"⟩, prog_1_method_8_code, 3, some .int)
theorem m9_man_c : MC m9_man 2 := ⟨t707, t1, by decide +kernel, by decide⟩
theorem m9_man_v : MV m9_man 2 := ⟨m9_man_c, t705, t706⟩
def m9_need : JM := (⟨"TemperCellar", "need", "(II)I"⟩, prog_1_method_9_code, 3, some .int)
theorem m9_need_c : MC m9_need 2 := ⟨t734, t1, by decide +kernel, by decide⟩
theorem m9_need_v : MV m9_need 2 := ⟨m9_need_c, t732, t733⟩
def m9_bin : JM := (⟨"TemperCellar", "bin", "(I)I"⟩, prog_1_method_10_code, 4, some .int)
theorem m9_bin_c : MC m9_bin 1 := ⟨t742, t1, by decide +kernel, by decide⟩
theorem m9_bin_v : MV m9_bin 1 := ⟨m9_bin_c, t740, t741⟩
def m9_law : JM := (⟨"TemperCellar", "law", "(II)J"⟩, prog_1_method_11_code, 3, some .long)
theorem m9_law_c : MC m9_law 2 := ⟨t749, t1, by decide +kernel, by decide⟩
theorem m9_law_v : MV m9_law 2 := ⟨m9_law_c, t747, t748⟩
def m9_rack : JM := (⟨"TemperCellar", "rack", "(II)Z"⟩, prog_1_method_12_code, 3, some .boolean)
theorem m9_rack_c : MC m9_rack 2 := ⟨t783, t1, by decide +kernel, by decide⟩
theorem m9_rack_v : MV m9_rack 2 := ⟨m9_rack_c, t781, t782⟩
def m9_seal : JM := (⟨"TemperCellar", "seal", "(I)I"⟩, prog_1_method_13_code, 2, some .int)
theorem m9_seal_c : MC m9_seal 1 := ⟨t802, t1, by decide +kernel, by decide⟩
theorem m9_seal_v : MV m9_seal 1 := ⟨m9_seal_c, t800, t801⟩
def m9_open : JM := (⟨"TemperCellar", "open", "(I)I"⟩, prog_1_method_14_code, 2, some .int)
theorem m9_open_c : MC m9_open 1 := ⟨t806, t1, by decide +kernel, by decide⟩
theorem m9_open_v : MV m9_open 1 := ⟨m9_open_c, t804, t805⟩
def m9_go : JM := (⟨"TemperCellar", "go", "(I)I"⟩, prog_1_method_15_code, 2, some .int)
theorem m9_go_c : MC m9_go 1 := ⟨t814, t1, by decide +kernel, by decide⟩
theorem m9_go_v : MV m9_go 1 := ⟨m9_go_c, t812, t813⟩
def m9_ahead : JM := (⟨"TemperCellar", "ahead", "(III)I"⟩, prog_1_method_16_code, 4, some .int)
theorem m9_ahead_c : MC m9_ahead 3 := ⟨t882, t1, by decide +kernel, by decide⟩
theorem m9_ahead_v : MV m9_ahead 3 := ⟨m9_ahead_c, t880, t881⟩
def m9_firstOff : JM := (⟨"TemperCellar", "firstOff", "(I)I"⟩, prog_1_method_17_code, 5, some .int)
theorem m9_firstOff_c : MC m9_firstOff 1 := ⟨t924, t1, by decide +kernel, by decide⟩
theorem m9_firstOff_v : MV m9_firstOff 1 := ⟨m9_firstOff_c, t922, t923⟩
def m9_chain : JM := (⟨"TemperCellar", "chain", "(I)I"⟩, prog_1_method_18_code, 2, some .int)
theorem m9_chain_c : MC m9_chain 1 := ⟨t930, t1, by decide +kernel, by decide⟩
theorem m9_chain_v : MV m9_chain 1 := ⟨m9_chain_c, t928, t929⟩
def m9_racking : JM := (⟨"TemperCellar", "racking", "(II)I"⟩, prog_1_method_19_code, 9, some .int)
theorem m9_racking_c : MC m9_racking 2 := ⟨t935, t1, by decide +kernel, by decide⟩
theorem m9_racking_v : MV m9_racking 2 := ⟨m9_racking_c, t933, t934⟩
def m9_findRacked : JM := (⟨"TemperCellar", "findRacked", "()I"⟩, prog_1_method_20_code, 3, some .int)
theorem m9_findRacked_c : MC m9_findRacked 0 := ⟨t939, t1, by decide +kernel, by decide⟩
theorem m9_findRacked_v : MV m9_findRacked 0 := ⟨m9_findRacked_c, t938, ts43⟩
def m9_binByWay : JM := (⟨"TemperCellar", "binByWay", "(III)I"⟩, prog_1_method_21_code, 3, some .int)
theorem m9_binByWay_c : MC m9_binByWay 3 := ⟨t946, t1, by decide +kernel, by decide⟩
theorem m9_binByWay_s : MS m9_binByWay 3 := ⟨m9_binByWay_c, t945⟩
def m9_offIfRacked : JM := (⟨"TemperCellar", "offIfRacked", "(IIII)I"⟩, prog_1_method_22_code, 7, some .int)
theorem m9_offIfRacked_c : MC m9_offIfRacked 4 := ⟨t943, t1, by decide +kernel, by decide⟩
theorem m9_offIfRacked_v : MV m9_offIfRacked 4 := ⟨m9_offIfRacked_c, t942, ts44⟩
def m9_serve : JM := (⟨"TemperCellar", "serve", "(I)I"⟩, prog_1_method_23_code, 3, some .int)
theorem m9_serve_c : MC m9_serve 1 := ⟨t950, t1, by decide +kernel, by decide⟩
theorem m9_serve_v : MV m9_serve 1 := ⟨m9_serve_c, t948, t949⟩
def m9_served : JM := (⟨"TemperCellar", "served", "()I"⟩, prog_1_method_24_code, 1, some .int)
theorem m9_served_c : MC m9_served 0 := ⟨t980, t1, by decide +kernel, by decide⟩
theorem m9_served_v : MV m9_served 0 := ⟨m9_served_c, t978, t979⟩
def m9_pour : JM := (⟨"TemperCellar", "pour", "(II)I"⟩, prog_1_method_25_code, 6, some .int)
theorem m9_pour_c : MC m9_pour 2 := ⟨t984, t1, by decide +kernel, by decide⟩
theorem m9_pour_v : MV m9_pour 2 := ⟨m9_pour_c, t982, t983⟩
def m9_ripe : JM := (⟨"TemperCellar", "ripe", "(II)I"⟩, prog_1_method_26_code, 4, some .int)
theorem m9_ripe_c : MC m9_ripe 2 := ⟨t991, t1, by decide +kernel, by decide⟩
theorem m9_ripe_v : MV m9_ripe 2 := ⟨m9_ripe_c, t989, t990⟩
def m9_dowry : JM := (⟨"TemperCellar", "dowry", "(II)I"⟩, prog_1_method_27_code, 9, some .int)
theorem m9_dowry_c : MC m9_dowry 2 := ⟨t995, t1, by decide +kernel, by decide⟩
theorem m9_dowry_v : MV m9_dowry 2 := ⟨m9_dowry_c, t993, t994⟩
def m9_ring : JM := (⟨"TemperCellar", "ring", "()I"⟩, prog_1_method_28_code, 3, some .int)
theorem m9_ring_c : MC m9_ring 0 := ⟨t1002, t1, by decide +kernel, by decide⟩
theorem m9_ring_v : MV m9_ring 0 := ⟨m9_ring_c, t1000, t1001⟩
def m9_comesBack : JM := (⟨"TemperCellar", "comesBack", "(I)Z"⟩, prog_1_method_29_code, 5, some .boolean)
theorem m9_comesBack_c : MC m9_comesBack 1 := ⟨t1006, t1, by decide +kernel, by decide⟩
theorem m9_comesBack_v : MV m9_comesBack 1 := ⟨m9_comesBack_c, t1005, ts50⟩
def m9_rests : JM := (⟨"TemperCellar", "rests", "(II)I"⟩, prog_1_method_30_code, 5, some .int)
theorem m9_rests_c : MC m9_rests 2 := ⟨t1014, t1, by decide +kernel, by decide⟩
theorem m9_rests_v : MV m9_rests 2 := ⟨m9_rests_c, t1012, t1013⟩
def m9_rest : JM := (⟨"TemperCellar", "rest", "(III)I"⟩, prog_1_method_31_code, 6, some .int)
theorem m9_rest_c : MC m9_rest 3 := ⟨t1029, t1, by decide +kernel, by decide⟩
theorem m9_rest_v : MV m9_rest 3 := ⟨m9_rest_c, t1027, t1028⟩
def m9_isRest : JM := (⟨"TemperCellar", "isRest", "(III)Z"⟩, prog_1_method_32_code, 8, some .boolean)
theorem m9_isRest_c : MC m9_isRest 3 := ⟨t1018, t1, by decide +kernel, by decide⟩
theorem m9_isRest_v : MV m9_isRest 3 := ⟨m9_isRest_c, t1017, ts52⟩
def m9_gain : JM := (⟨"TemperCellar", "gain", "(IIZZ)I"⟩, prog_1_method_33_code, 5, some .int)
theorem m9_gain_c : MC m9_gain 4 := ⟨t1025, t1, by decide +kernel, by decide⟩
theorem m9_gain_s : MS m9_gain 4 := ⟨m9_gain_c, t1024⟩
def m9_highestForceOf : JM := (⟨"TemperCellar", "highestForceOf", "(I)I"⟩, prog_1_method_34_code, 3, some .int)
theorem m9_highestForceOf_c : MC m9_highestForceOf 1 := ⟨t1022, t1, by decide +kernel, by decide⟩
theorem m9_highestForceOf_v : MV m9_highestForceOf 1 := ⟨m9_highestForceOf_c, t1021, ts53⟩
def m9_strongestOf : JM := (⟨"TemperCellar", "strongestOf", "(I)I"⟩, prog_1_method_35_code, 4, some .int)
theorem m9_strongestOf_c : MC m9_strongestOf 1 := ⟨t1010, t1, by decide +kernel, by decide⟩
theorem m9_strongestOf_v : MV m9_strongestOf 1 := ⟨m9_strongestOf_c, t1009, ts51⟩
def m9_lasts : JM := (⟨"TemperCellar", "lasts", "(III)J"⟩, prog_1_method_36_code, 12, some .long)
theorem m9_lasts_c : MC m9_lasts 3 := ⟨t1033, t1, by decide +kernel, by decide⟩
theorem m9_lasts_v : MV m9_lasts 3 := ⟨m9_lasts_c, t1031, t1032⟩
def m9_power : JM := (⟨"TemperCellar", "power", "(JI)J"⟩, prog_1_method_37_code, 6, some .long)
theorem m9_power_c : MC m9_power 2 := ⟨t1037, t1, by decide +kernel, by decide⟩
theorem m9_power_s : MS m9_power 2 := ⟨m9_power_c, t1036⟩
def m9_commonPart : JM := (⟨"TemperCellar", "commonPart", "(JJ)J"⟩, prog_1_method_38_code, 7, some .long)
theorem m9_commonPart_c : MC m9_commonPart 2 := ⟨t1041, t1, by decide +kernel, by decide⟩
theorem m9_commonPart_s : MS m9_commonPart 2 := ⟨m9_commonPart_c, t1040⟩
def m9_see : JM := (⟨"TemperCellar", "see", "(IIZ)I"⟩, prog_1_method_39_code, 4, some .int)
theorem m9_see_c : MC m9_see 3 := ⟨t1045, t1, by decide +kernel, by decide⟩
theorem m9_see_v : MV m9_see 3 := ⟨m9_see_c, t1043, t1044⟩
def m9_out : JM := (⟨"TemperCellar", "out", "(I)I"⟩, prog_1_method_40_code, 2, some .int)
theorem m9_out_c : MC m9_out 1 := ⟨t1053, t1, by decide +kernel, by decide⟩
theorem m9_out_v : MV m9_out 1 := ⟨m9_out_c, t1051, t1052⟩
def m9_known : JM := (⟨"TemperCellar", "known", "(I)Z"⟩, prog_1_method_41_code, 2, some .boolean)
theorem m9_known_c : MC m9_known 1 := ⟨t1062, t1, by decide +kernel, by decide⟩
theorem m9_known_v : MV m9_known 1 := ⟨m9_known_c, t1060, t1061⟩
def m9_corks : JM := (⟨"TemperCellar", "corks", "(I)I"⟩, prog_1_method_42_code, 5, some .int)
theorem m9_corks_c : MC m9_corks 1 := ⟨t1066, t1, by decide +kernel, by decide⟩
theorem m9_corks_v : MV m9_corks 1 := ⟨m9_corks_c, t1064, t1065⟩
def m9_agreesWithSeen : JM := (⟨"TemperCellar", "agreesWithSeen", "(III)Z"⟩, prog_1_method_43_code, 5, some .boolean)
theorem m9_agreesWithSeen_c : MC m9_agreesWithSeen 3 := ⟨t1084, t1, by decide +kernel, by decide⟩
theorem m9_agreesWithSeen_v : MV m9_agreesWithSeen 3 := ⟨m9_agreesWithSeen_c, t1083, ts54⟩
def m9_chance : JM := (⟨"TemperCellar", "chance", "(III)I"⟩, prog_1_method_44_code, 8, some .int)
theorem m9_chance_c : MC m9_chance 3 := ⟨t1092, t1, by decide +kernel, by decide⟩
theorem m9_chance_v : MV m9_chance 3 := ⟨m9_chance_c, t1090, t1091⟩
def m9_tried : JM := (⟨"TemperCellar", "tried", "(III)I"⟩, prog_1_method_45_code, 4, some .int)
theorem m9_tried_c : MC m9_tried 3 := ⟨t1096, t1, by decide +kernel, by decide⟩
theorem m9_tried_v : MV m9_tried 3 := ⟨m9_tried_c, t1094, t1095⟩
def m9_undo : JM := (⟨"TemperCellar", "undo", "()I"⟩, prog_1_method_46_code, 1, some .int)
theorem m9_undo_c : MC m9_undo 0 := ⟨t1101, t1, by decide +kernel, by decide⟩
theorem m9_undo_v : MV m9_undo 0 := ⟨m9_undo_c, t1099, t1100⟩
def m9_keep : JM := (⟨"TemperCellar", "keep", "()I"⟩, prog_1_method_47_code, 1, some .int)
theorem m9_keep_c : MC m9_keep 0 := ⟨t1111, t1, by decide +kernel, by decide⟩
theorem m9_keep_v : MV m9_keep 0 := ⟨m9_keep_c, t1109, t1110⟩
def m9_back : JM := (⟨"TemperCellar", "back", "()I"⟩, prog_1_method_48_code, 1, some .int)
theorem m9_back_c : MC m9_back 0 := ⟨t1115, t1, by decide +kernel, by decide⟩
theorem m9_back_v : MV m9_back 0 := ⟨m9_back_c, t1113, t1114⟩
def m9_count : JM := (⟨"TemperCellar", "count", "(I)I"⟩, prog_1_method_49_code, 2, some .int)
theorem m9_count_c : MC m9_count 1 := ⟨t1119, t1, by decide +kernel, by decide⟩
theorem m9_count_v : MV m9_count 1 := ⟨m9_count_c, t1117, t1118⟩
def m9_startTrial : JM := (⟨"TemperCellar", "startTrial", "(I)V"⟩, prog_1_method_50_code, 2, none)
theorem m9_startTrial_c : MC m9_startTrial 1 := ⟨t886, t1, by decide +kernel, by decide⟩
theorem m9_startTrial_v : MV m9_startTrial 1 := ⟨m9_startTrial_c, t885, ts40⟩
def m9_moreOff : JM := (⟨"TemperCellar", "moreOff", "()I"⟩, prog_1_method_51_code, 1, some .int)
theorem m9_moreOff_c : MC m9_moreOff 0 := ⟨t895, t1, by decide +kernel, by decide⟩
theorem m9_moreOff_v : MV m9_moreOff 0 := ⟨m9_moreOff_c, t894, ts41⟩
def m9_lyingOf : JM := (⟨"TemperCellar", "lyingOf", "(I)I"⟩, prog_1_method_52_code, 4, some .int)
theorem m9_lyingOf_c : MC m9_lyingOf 1 := ⟨t716, t1, by decide +kernel, by decide⟩
theorem m9_lyingOf_v : MV m9_lyingOf 1 := ⟨m9_lyingOf_c, t715, ts26⟩
def m9_forceOf : JM := (⟨"TemperCellar", "forceOf", "(I)I"⟩, prog_1_method_53_code, 4, some .int)
theorem m9_forceOf_c : MC m9_forceOf 1 := ⟨t730, t1, by decide +kernel, by decide⟩
theorem m9_forceOf_v : MV m9_forceOf 1 := ⟨m9_forceOf_c, t729, ts27⟩
def m9_isPerson : JM := (⟨"TemperCellar", "isPerson", "(I)Z"⟩, prog_1_method_54_code, 2, some .boolean)
theorem m9_isPerson_c : MC m9_isPerson 1 := ⟨t711, t1, by decide +kernel, by decide⟩
theorem m9_isPerson_v : MV m9_isPerson 1 := ⟨m9_isPerson_c, t710, ts25⟩
def m9_isBottle : JM := (⟨"TemperCellar", "isBottle", "(I)Z"⟩, prog_1_method_55_code, 2, some .boolean)
theorem m9_isBottle_c : MC m9_isBottle 1 := ⟨t757, t1, by decide +kernel, by decide⟩
theorem m9_isBottle_v : MV m9_isBottle 1 := ⟨m9_isBottle_c, t756, ts30⟩
def m9_isLyingBottle : JM := (⟨"TemperCellar", "isLyingBottle", "(I)Z"⟩, prog_1_method_56_code, 2, some .boolean)
theorem m9_isLyingBottle_c : MC m9_isLyingBottle 1 := ⟨t753, t1, by decide +kernel, by decide⟩
theorem m9_isLyingBottle_v : MV m9_isLyingBottle 1 := ⟨m9_isLyingBottle_c, t752, ts29⟩
def m9_isNeed : JM := (⟨"TemperCellar", "isNeed", "(I)Z"⟩, prog_1_method_57_code, 2, some .boolean)
theorem m9_isNeed_c : MC m9_isNeed 1 := ⟨t738, t1, by decide +kernel, by decide⟩
theorem m9_isNeed_v : MV m9_isNeed 1 := ⟨m9_isNeed_c, t737, ts28⟩
def m9_isBin : JM := (⟨"TemperCellar", "isBin", "(I)Z"⟩, prog_1_method_58_code, 1, some .boolean)
theorem m9_isBin_c : MC m9_isBin 1 := ⟨t745, t1, by decide +kernel, by decide⟩
theorem m9_isBin_s : MS m9_isBin 1 := ⟨m9_isBin_c, t744⟩
def m9_isForce : JM := (⟨"TemperCellar", "isForce", "(I)Z"⟩, prog_1_method_59_code, 1, some .boolean)
theorem m9_isForce_c : MC m9_isForce 1 := ⟨t987, t1, by decide +kernel, by decide⟩
theorem m9_isForce_s : MS m9_isForce 1 := ⟨m9_isForce_c, t986⟩
def m9_isAmong : JM := (⟨"TemperCellar", "isAmong", "(III)Z"⟩, prog_1_method_60_code, 3, some .boolean)
theorem m9_isAmong_c : MC m9_isAmong 3 := ⟨t629, t1, by decide +kernel, by decide⟩
theorem m9_isAmong_s : MS m9_isAmong 3 := ⟨m9_isAmong_c, t628⟩
def m10_init : JM := (⟨"TemperCellarModel", "<init>", "()V"⟩, prog_12_method_1_code, 1, none)
theorem m10_init_c : MC m10_init 0 := ⟨t1216, t12, by decide +kernel, by decide⟩
theorem m10_init_i : MI m10_init 0 := ⟨m10_init_c, t1215, rfl, rfl⟩
def m10_thrown : JM := (⟨"TemperCellarModel", "thrown", "()I"⟩, prog_12_method_2_code, 1, some .int)
theorem m10_thrown_c : MC m10_thrown 0 := ⟨t1422, t12, by decide +kernel, by decide⟩
theorem m10_thrown_v : MV m10_thrown 0 := ⟨m10_thrown_c, t1420, t1421⟩
def m10_feed : JM := (⟨"TemperCellarModel", "feed", "(IIIII)I"⟩, prog_12_method_3_code, 8, some .int)
theorem m10_feed_c : MC m10_feed 5 := ⟨t1426, t12, by decide +kernel, by decide⟩
theorem m10_feed_v : MV m10_feed 5 := ⟨m10_feed_c, t1424, t1425⟩
def m10_here : JM := (⟨"TemperCellarModel", "here", "()I"⟩, prog_12_method_4_code, 1, some .int)
theorem m10_here_c : MC m10_here 0 := ⟨t1442, t12, by decide +kernel, by decide⟩
theorem m10_here_v : MV m10_here 0 := ⟨m10_here_c, t1441, ts60⟩
def m10_isSmall : JM := (⟨"TemperCellarModel", "isSmall", "(I)Z"⟩, prog_12_method_5_code, 1, some .boolean)
theorem m10_isSmall_c : MC m10_isSmall 1 := ⟨t1445, t12, by decide +kernel, by decide⟩
theorem m10_isSmall_s : MS m10_isSmall 1 := ⟨m10_isSmall_c, t1444⟩
def m10_isDigit : JM := (⟨"TemperCellarModel", "isDigit", "(I)Z"⟩, prog_12_method_6_code, 1, some .boolean)
theorem m10_isDigit_c : MC m10_isDigit 1 := ⟨t1459, t12, by decide +kernel, by decide⟩
theorem m10_isDigit_s : MS m10_isDigit 1 := ⟨m10_isDigit_c, t1458⟩
def m10_token : JM := (⟨"TemperCellarModel", "token", "()V"⟩, prog_12_method_7_code, 2, none)
theorem m10_token_c : MC m10_token 0 := ⟨t1438, t12, by decide +kernel, by decide⟩
theorem m10_token_v : MV m10_token 0 := ⟨m10_token_c, t1437, ts59⟩
def m10_sign : JM := (⟨"TemperCellarModel", "sign", "(I)V"⟩, prog_12_method_8_code, 2, none)
theorem m10_sign_c : MC m10_sign 1 := ⟨t1464, t12, by decide +kernel, by decide⟩
theorem m10_sign_v : MV m10_sign 1 := ⟨m10_sign_c, t1463, ts63⟩
def m10_word : JM := (⟨"TemperCellarModel", "word", "()I"⟩, prog_12_method_9_code, 4, some .int)
theorem m10_word_c : MC m10_word 0 := ⟨t1449, t12, by decide +kernel, by decide⟩
theorem m10_word_v : MV m10_word 0 := ⟨m10_word_c, t1448, ts61⟩
def m10_name : JM := (⟨"TemperCellarModel", "name", "()V"⟩, prog_12_method_10_code, 2, none)
theorem m10_name_c : MC m10_name 0 := ⟨t1456, t12, by decide +kernel, by decide⟩
theorem m10_name_v : MV m10_name 0 := ⟨m10_name_c, t1455, ts62⟩
def m10_wrong : JM := (⟨"TemperCellarModel", "wrong", "(I)V"⟩, prog_12_method_11_code, 2, none)
theorem m10_wrong_c : MC m10_wrong 1 := ⟨t1472, t12, by decide +kernel, by decide⟩
theorem m10_wrong_v : MV m10_wrong 1 := ⟨m10_wrong_c, t1471, ts65⟩
def m10_isWord : JM := (⟨"TemperCellarModel", "isWord", "(I)Z"⟩, prog_12_method_12_code, 2, some .boolean)
theorem m10_isWord_c : MC m10_isWord 1 := ⟨t1527, t12, by decide +kernel, by decide⟩
theorem m10_isWord_v : MV m10_isWord 1 := ⟨m10_isWord_c, t1526, ts78⟩
def m10_isSign : JM := (⟨"TemperCellarModel", "isSign", "(I)Z"⟩, prog_12_method_13_code, 2, some .boolean)
theorem m10_isSign_c : MC m10_isSign 1 := ⟨t1551, t12, by decide +kernel, by decide⟩
theorem m10_isSign_v : MV m10_isSign 1 := ⟨m10_isSign_c, t1550, ts84⟩
def m10_goOn : JM := (⟨"TemperCellarModel", "goOn", "()V"⟩, prog_12_method_14_code, 1, none)
theorem m10_goOn_c : MC m10_goOn 0 := ⟨t1507, t12, by decide +kernel, by decide⟩
theorem m10_goOn_v : MV m10_goOn 0 := ⟨m10_goOn_c, t1506, ts73⟩
def m10_numeral : JM := (⟨"TemperCellarModel", "numeral", "(II)I"⟩, prog_12_method_15_code, 4, some .int)
theorem m10_numeral_c : MC m10_numeral 2 := ⟨t1491, t12, by decide +kernel, by decide⟩
theorem m10_numeral_v : MV m10_numeral 2 := ⟨m10_numeral_c, t1490, ts69⟩
def m10_found : JM := (⟨"TemperCellarModel", "found", "([IIII)I"⟩, prog_12_method_16_code, 5, some .int)
theorem m10_found_c : MC m10_found 4 := ⟨t1487, t12, by decide +kernel, by decide⟩
theorem m10_found_s : MS m10_found 4 := ⟨m10_found_c, t1486⟩
def m10_fresh : JM := (⟨"TemperCellarModel", "fresh", "([III)I"⟩, prog_12_method_17_code, 5, some .int)
theorem m10_fresh_c : MC m10_fresh 3 := ⟨t1484, t12, by decide +kernel, by decide⟩
theorem m10_fresh_v : MV m10_fresh 3 := ⟨m10_fresh_c, t1483, ts68⟩
def m10_fresher : JM := (⟨"TemperCellarModel", "fresher", "(I)I"⟩, prog_12_method_18_code, 2, some .int)
theorem m10_fresher_c : MC m10_fresher 1 := ⟨t1480, t12, by decide +kernel, by decide⟩
theorem m10_fresher_v : MV m10_fresher 1 := ⟨m10_fresher_c, t1479, ts67⟩
def m10_reads : JM := (⟨"TemperCellarModel", "reads", "(II)V"⟩, prog_12_method_19_code, 3, none)
theorem m10_reads_c : MC m10_reads 2 := ⟨t1434, t12, by decide +kernel, by decide⟩
theorem m10_reads_v : MV m10_reads 2 := ⟨m10_reads_c, t1433, ts58⟩
def m10_manAtHand : JM := (⟨"TemperCellarModel", "manAtHand", "()I"⟩, prog_12_method_20_code, 1, some .int)
theorem m10_manAtHand_c : MC m10_manAtHand 0 := ⟨t1503, t12, by decide +kernel, by decide⟩
theorem m10_manAtHand_v : MV m10_manAtHand 0 := ⟨m10_manAtHand_c, t1502, ts72⟩
def m10_manAhead : JM := (⟨"TemperCellarModel", "manAhead", "()I"⟩, prog_12_method_21_code, 2, some .int)
theorem m10_manAhead_c : MC m10_manAhead 0 := ⟨t1499, t12, by decide +kernel, by decide⟩
theorem m10_manAhead_v : MV m10_manAhead 0 := ⟨m10_manAhead_c, t1498, ts71⟩
def m10_isFull : JM := (⟨"TemperCellarModel", "isFull", "(I)Z"⟩, prog_12_method_22_code, 2, some .boolean)
theorem m10_isFull_c : MC m10_isFull 1 := ⟨t1476, t12, by decide +kernel, by decide⟩
theorem m10_isFull_v : MV m10_isFull 1 := ⟨m10_isFull_c, t1475, ts66⟩
def m10_line : JM := (⟨"TemperCellarModel", "line", "()V"⟩, prog_12_method_23_code, 4, none)
theorem m10_line_c : MC m10_line 0 := ⟨t1468, t12, by decide +kernel, by decide⟩
theorem m10_line_v : MV m10_line 0 := ⟨m10_line_c, t1467, ts64⟩
def m10_bottleLine : JM := (⟨"TemperCellarModel", "bottleLine", "(I)V"⟩, prog_12_method_24_code, 2, none)
theorem m10_bottleLine_c : MC m10_bottleLine 1 := ⟨t1495, t12, by decide +kernel, by decide⟩
theorem m10_bottleLine_v : MV m10_bottleLine 1 := ⟨m10_bottleLine_c, t1494, ts70⟩
def m10_lawLine : JM := (⟨"TemperCellarModel", "lawLine", "()V"⟩, prog_12_method_25_code, 2, none)
theorem m10_lawLine_c : MC m10_lawLine 0 := ⟨t1511, t12, by decide +kernel, by decide⟩
theorem m10_lawLine_v : MV m10_lawLine 0 := ⟨m10_lawLine_c, t1510, ts74⟩
def m10_puts : JM := (⟨"TemperCellarModel", "puts", "(II)V"⟩, prog_12_method_26_code, 3, none)
theorem m10_puts_c : MC m10_puts 2 := ⟨t1535, t12, by decide +kernel, by decide⟩
theorem m10_puts_v : MV m10_puts 2 := ⟨m10_puts_c, t1534, ts80⟩
def m10_knot : JM := (⟨"TemperCellarModel", "knot", "()V"⟩, prog_12_method_27_code, 1, none)
theorem m10_knot_c : MC m10_knot 0 := ⟨t1531, t12, by decide +kernel, by decide⟩
theorem m10_knot_v : MV m10_knot 0 := ⟨m10_knot_c, t1530, ts79⟩
def m10_expression : JM := (⟨"TemperCellarModel", "expression", "()V"⟩, prog_12_method_28_code, 1, none)
theorem m10_expression_c : MC m10_expression 0 := ⟨t1515, t12, by decide +kernel, by decide⟩
theorem m10_expression_v : MV m10_expression 0 := ⟨m10_expression_c, t1514, ts75⟩
def m10_conjunction : JM := (⟨"TemperCellarModel", "conjunction", "()V"⟩, prog_12_method_29_code, 1, none)
theorem m10_conjunction_c : MC m10_conjunction 0 := ⟨t1519, t12, by decide +kernel, by decide⟩
theorem m10_conjunction_v : MV m10_conjunction 0 := ⟨m10_conjunction_c, t1518, ts76⟩
def m10_negation : JM := (⟨"TemperCellarModel", "negation", "()V"⟩, prog_12_method_30_code, 2, none)
theorem m10_negation_c : MC m10_negation 0 := ⟨t1523, t12, by decide +kernel, by decide⟩
theorem m10_negation_v : MV m10_negation 0 := ⟨m10_negation_c, t1522, ts77⟩
def m10_sum : JM := (⟨"TemperCellarModel", "sum", "()V"⟩, prog_12_method_31_code, 2, none)
theorem m10_sum_c : MC m10_sum 0 := ⟨t1539, t12, by decide +kernel, by decide⟩
theorem m10_sum_v : MV m10_sum 0 := ⟨m10_sum_c, t1538, ts81⟩
def m10_product : JM := (⟨"TemperCellarModel", "product", "()V"⟩, prog_12_method_32_code, 2, none)
theorem m10_product_c : MC m10_product 0 := ⟨t1543, t12, by decide +kernel, by decide⟩
theorem m10_product_v : MV m10_product 0 := ⟨m10_product_c, t1542, ts82⟩
def m10_primary : JM := (⟨"TemperCellarModel", "primary", "()V"⟩, prog_12_method_33_code, 2, none)
theorem m10_primary_c : MC m10_primary 0 := ⟨t1547, t12, by decide +kernel, by decide⟩
theorem m10_primary_v : MV m10_primary 0 := ⟨m10_primary_c, t1546, ts83⟩
def m10_half : JM := (⟨"TemperCellarModel", "half", "([I)V"⟩, prog_12_method_34_code, 3, none)
theorem m10_half_c : MC m10_half 1 := ⟨t1554, t12, by decide +kernel, by decide⟩
theorem m10_half_s : MS m10_half 1 := ⟨m10_half_c, t1553⟩
def m10_text : JM := (⟨"TemperCellarModel", "text", "(I)I"⟩, prog_12_method_35_code, 3, some .int)
theorem m10_text_c : MC m10_text 1 := ⟨t1430, t12, by decide +kernel, by decide⟩
theorem m10_text_v : MV m10_text 1 := ⟨m10_text_c, t1428, t1429⟩
def m10_fault : JM := (⟨"TemperCellarModel", "fault", "(I)I"⟩, prog_12_method_36_code, 2, some .int)
theorem m10_fault_c : MC m10_fault 1 := ⟨t1558, t12, by decide +kernel, by decide⟩
theorem m10_fault_v : MV m10_fault 1 := ⟨m10_fault_c, t1556, t1557⟩
def m10_named : JM := (⟨"TemperCellarModel", "named", "(II)I"⟩, prog_12_method_37_code, 3, some .int)
theorem m10_named_c : MC m10_named 2 := ⟨t1562, t12, by decide +kernel, by decide⟩
theorem m10_named_v : MV m10_named 2 := ⟨m10_named_c, t1560, t1561⟩
def m10_is : JM := (⟨"TemperCellarModel", "is", "(Z)J"⟩, prog_12_method_38_code, 1, some .long)
theorem m10_is_c : MC m10_is 1 := ⟨t1641, t12, by decide +kernel, by decide⟩
theorem m10_is_s : MS m10_is 1 := ⟨m10_is_c, t1640⟩
def m10_works : JM := (⟨"TemperCellarModel", "works", "(I)Z"⟩, prog_12_method_39_code, 8, some .boolean)
theorem m10_works_c : MC m10_works 1 := ⟨t1638, t12, by decide +kernel, by decide⟩
theorem m10_works_v : MV m10_works 1 := ⟨m10_works_c, t1637, ts97⟩
def m10_goes : JM := (⟨"TemperCellarModel", "goes", "(I)Z"⟩, prog_12_method_40_code, 3, some .boolean)
theorem m10_goes_c : MC m10_goes 1 := ⟨t1634, t12, by decide +kernel, by decide⟩
theorem m10_goes_v : MV m10_goes 1 := ⟨m10_goes_c, t1633, ts96⟩
def m10_hasLaw : JM := (⟨"TemperCellarModel", "hasLaw", "(I)Z"⟩, prog_12_method_41_code, 2, some .boolean)
theorem m10_hasLaw_c : MC m10_hasLaw 1 := ⟨t1613, t12, by decide +kernel, by decide⟩
theorem m10_hasLaw_v : MV m10_hasLaw 1 := ⟨m10_hasLaw_c, t1612, ts91⟩
def m10_starts : JM := (⟨"TemperCellarModel", "starts", "(I)V"⟩, prog_12_method_42_code, 5, none)
theorem m10_starts_c : MC m10_starts 1 := ⟨t1225, t12, by decide +kernel, by decide⟩
theorem m10_starts_v : MV m10_starts 1 := ⟨m10_starts_c, t1224, ts57⟩
def m10_begins : JM := (⟨"TemperCellarModel", "begins", "()V"⟩, prog_12_method_43_code, 1, none)
theorem m10_begins_c : MC m10_begins 0 := ⟨t1221, t12, by decide +kernel, by decide⟩
theorem m10_begins_v : MV m10_begins 0 := ⟨m10_begins_c, t1220, ts56⟩
def m10_copies : JM := (⟨"TemperCellarModel", "copies", "(II)V"⟩, prog_12_method_44_code, 6, none)
theorem m10_copies_c : MC m10_copies 2 := ⟨t1658, t12, by decide +kernel, by decide⟩
theorem m10_copies_v : MV m10_copies 2 := ⟨m10_copies_c, t1657, ts99⟩
def m10_isMan : JM := (⟨"TemperCellarModel", "isMan", "(I)Z"⟩, prog_12_method_45_code, 2, some .boolean)
theorem m10_isMan_c : MC m10_isMan 1 := ⟨t1578, t12, by decide +kernel, by decide⟩
theorem m10_isMan_v : MV m10_isMan 1 := ⟨m10_isMan_c, t1577, ts86⟩
def m10_isBottle : JM := (⟨"TemperCellarModel", "isBottle", "(I)Z"⟩, prog_12_method_46_code, 2, some .boolean)
theorem m10_isBottle_c : MC m10_isBottle 1 := ⟨t1570, t12, by decide +kernel, by decide⟩
theorem m10_isBottle_v : MV m10_isBottle 1 := ⟨m10_isBottle_c, t1569, ts85⟩
def m10_isNeed : JM := (⟨"TemperCellarModel", "isNeed", "(I)Z"⟩, prog_12_method_47_code, 2, some .boolean)
theorem m10_isNeed_c : MC m10_isNeed 1 := ⟨t1601, t12, by decide +kernel, by decide⟩
theorem m10_isNeed_v : MV m10_isNeed 1 := ⟨m10_isNeed_c, t1600, ts90⟩
def m10_isLying : JM := (⟨"TemperCellarModel", "isLying", "(II)Z"⟩, prog_12_method_48_code, 3, some .boolean)
theorem m10_isLying_c : MC m10_isLying 2 := ⟨t1586, t12, by decide +kernel, by decide⟩
theorem m10_isLying_v : MV m10_isLying 2 := ⟨m10_isLying_c, t1585, ts88⟩
def m10_loadOf : JM := (⟨"TemperCellarModel", "loadOf", "(II)I"⟩, prog_12_method_49_code, 5, some .int)
theorem m10_loadOf_c : MC m10_loadOf 2 := ⟨t1630, t12, by decide +kernel, by decide⟩
theorem m10_loadOf_v : MV m10_loadOf 2 := ⟨m10_loadOf_c, t1629, ts95⟩
def m10_hatedOf : JM := (⟨"TemperCellarModel", "hatedOf", "(II)I"⟩, prog_12_method_50_code, 5, some .int)
theorem m10_hatedOf_c : MC m10_hatedOf 2 := ⟨t1626, t12, by decide +kernel, by decide⟩
theorem m10_hatedOf_v : MV m10_hatedOf 2 := ⟨m10_hatedOf_c, t1625, ts94⟩
def m10_calls : JM := (⟨"TemperCellarModel", "calls", "(II)V"⟩, prog_12_method_51_code, 4, none)
theorem m10_calls_c : MC m10_calls 2 := ⟨t1622, t12, by decide +kernel, by decide⟩
theorem m10_calls_v : MV m10_calls 2 := ⟨m10_calls_c, t1621, ts93⟩
def m10_within : JM := (⟨"TemperCellarModel", "within", "(II)I"⟩, prog_12_method_52_code, 3, some .int)
theorem m10_within_c : MC m10_within 2 := ⟨t1688, t12, by decide +kernel, by decide⟩
theorem m10_within_v : MV m10_within 2 := ⟨m10_within_c, t1687, ts103⟩
def m10_isSetOff : JM := (⟨"TemperCellarModel", "isSetOff", "(II)Z"⟩, prog_12_method_53_code, 3, some .boolean)
theorem m10_isSetOff_c : MC m10_isSetOff 2 := ⟨t1701, t12, by decide +kernel, by decide⟩
theorem m10_isSetOff_v : MV m10_isSetOff 2 := ⟨m10_isSetOff_c, t1700, ts105⟩
def m10_goesOff : JM := (⟨"TemperCellarModel", "goesOff", "(II)V"⟩, prog_12_method_54_code, 7, none)
theorem m10_goesOff_c : MC m10_goesOff 2 := ⟨t1697, t12, by decide +kernel, by decide⟩
theorem m10_goesOff_v : MV m10_goesOff 2 := ⟨m10_goesOff_c, t1696, ts104⟩
def m10_doesThunder : JM := (⟨"TemperCellarModel", "doesThunder", "(IZ)Z"⟩, prog_12_method_55_code, 4, some .boolean)
theorem m10_doesThunder_c : MC m10_doesThunder 2 := ⟨t1678, t12, by decide +kernel, by decide⟩
theorem m10_doesThunder_v : MV m10_doesThunder 2 := ⟨m10_doesThunder_c, t1677, ts101⟩
def m10_creeps : JM := (⟨"TemperCellarModel", "creeps", "(I)V"⟩, prog_12_method_56_code, 4, none)
theorem m10_creeps_c : MC m10_creeps 1 := ⟨t1684, t12, by decide +kernel, by decide⟩
theorem m10_creeps_v : MV m10_creeps 1 := ⟨m10_creeps_c, t1683, ts102⟩
def m10_weakest : JM := (⟨"TemperCellarModel", "weakest", "(IIZ)I"⟩, prog_12_method_57_code, 7, some .int)
theorem m10_weakest_c : MC m10_weakest 3 := ⟨t1709, t12, by decide +kernel, by decide⟩
theorem m10_weakest_v : MV m10_weakest 3 := ⟨m10_weakest_c, t1708, ts107⟩
def m10_comes : JM := (⟨"TemperCellarModel", "comes", "(II)V"⟩, prog_12_method_58_code, 5, none)
theorem m10_comes_c : MC m10_comes 2 := ⟨t1705, t12, by decide +kernel, by decide⟩
theorem m10_comes_v : MV m10_comes 2 := ⟨m10_comes_c, t1704, ts106⟩
def m10_passes : JM := (⟨"TemperCellarModel", "passes", "(IZ)V"⟩, prog_12_method_59_code, 5, none)
theorem m10_passes_c : MC m10_passes 2 := ⟨t1674, t12, by decide +kernel, by decide⟩
theorem m10_passes_v : MV m10_passes 2 := ⟨m10_passes_c, t1673, ts100⟩
def m10_goesOn : JM := (⟨"TemperCellarModel", "goesOn", "(I)V"⟩, prog_12_method_60_code, 3, none)
theorem m10_goesOn_c : MC m10_goesOn 1 := ⟨t1721, t12, by decide +kernel, by decide⟩
theorem m10_goesOn_v : MV m10_goesOn 1 := ⟨m10_goesOn_c, t1720, ts109⟩
def m10_runs : JM := (⟨"TemperCellarModel", "runs", "(I)V"⟩, prog_12_method_61_code, 2, none)
theorem m10_runs_c : MC m10_runs 1 := ⟨t1717, t12, by decide +kernel, by decide⟩
theorem m10_runs_v : MV m10_runs 1 := ⟨m10_runs_c, t1716, ts108⟩
def m10_manyOf : JM := (⟨"TemperCellarModel", "manyOf", "(II)I"⟩, prog_12_method_62_code, 5, some .int)
theorem m10_manyOf_c : MC m10_manyOf 2 := ⟨t1725, t12, by decide +kernel, by decide⟩
theorem m10_manyOf_v : MV m10_manyOf 2 := ⟨m10_manyOf_c, t1724, ts110⟩
def m10_needsOf : JM := (⟨"TemperCellarModel", "needsOf", "(IZ)I"⟩, prog_12_method_63_code, 6, some .int)
theorem m10_needsOf_c : MC m10_needsOf 2 := ⟨t1729, t12, by decide +kernel, by decide⟩
theorem m10_needsOf_v : MV m10_needsOf 2 := ⟨m10_needsOf_c, t1728, ts111⟩
def m10_bitsOf : JM := (⟨"TemperCellarModel", "bitsOf", "(I)I"⟩, prog_12_method_64_code, 3, some .int)
theorem m10_bitsOf_c : MC m10_bitsOf 1 := ⟨t1589, t12, by decide +kernel, by decide⟩
theorem m10_bitsOf_s : MS m10_bitsOf 1 := ⟨m10_bitsOf_c, t1588⟩
def m10_hatesAll : JM := (⟨"TemperCellarModel", "hatesAll", "(I)I"⟩, prog_12_method_65_code, 4, some .int)
theorem m10_hatesAll_c : MC m10_hatesAll 1 := ⟨t1733, t12, by decide +kernel, by decide⟩
theorem m10_hatesAll_v : MV m10_hatesAll 1 := ⟨m10_hatesAll_c, t1732, ts112⟩
def m10_bottle : JM := (⟨"TemperCellarModel", "bottle", "(II)I"⟩, prog_12_method_66_code, 3, some .int)
theorem m10_bottle_c : MC m10_bottle 2 := ⟨t1566, t12, by decide +kernel, by decide⟩
theorem m10_bottle_v : MV m10_bottle 2 := ⟨m10_bottle_c, t1564, t1565⟩
def m10_ownSet : JM := (⟨"TemperCellarModel", "ownSet", "(I)I"⟩, prog_12_method_67_code, 4, some .int)
theorem m10_ownSet_c : MC m10_ownSet 1 := ⟨t1582, t12, by decide +kernel, by decide⟩
theorem m10_ownSet_v : MV m10_ownSet 1 := ⟨m10_ownSet_c, t1581, ts87⟩
def m10_forceIn : JM := (⟨"TemperCellarModel", "forceIn", "(I)I"⟩, prog_12_method_68_code, 4, some .int)
theorem m10_forceIn_c : MC m10_forceIn 1 := ⟨t1593, t12, by decide +kernel, by decide⟩
theorem m10_forceIn_v : MV m10_forceIn 1 := ⟨m10_forceIn_c, t1592, ts89⟩
def m10_man : JM := (⟨"TemperCellarModel", "man", "(II)I"⟩, prog_12_method_69_code, 3, some .int)
theorem m10_man_c : MC m10_man 2 := ⟨t1574, t12, by decide +kernel, by decide⟩
theorem m10_man_v : MV m10_man 2 := ⟨m10_man_c, t1572, t1573⟩
def m10_need : JM := (⟨"TemperCellarModel", "need", "(II)I"⟩, prog_12_method_70_code, 3, some .int)
theorem m10_need_c : MC m10_need 2 := ⟨t1597, t12, by decide +kernel, by decide⟩
theorem m10_need_v : MV m10_need 2 := ⟨m10_need_c, t1595, t1596⟩
def m10_bin : JM := (⟨"TemperCellarModel", "bin", "(I)I"⟩, prog_12_method_71_code, 4, some .int)
theorem m10_bin_c : MC m10_bin 1 := ⟨t1605, t12, by decide +kernel, by decide⟩
theorem m10_bin_v : MV m10_bin 1 := ⟨m10_bin_c, t1603, t1604⟩
def m10_isLyingNow : JM := (⟨"TemperCellarModel", "isLyingNow", "(I)Z"⟩, prog_12_method_72_code, 2, some .boolean)
theorem m10_isLyingNow_c : MC m10_isLyingNow 1 := ⟨t1617, t12, by decide +kernel, by decide⟩
theorem m10_isLyingNow_v : MV m10_isLyingNow 1 := ⟨m10_isLyingNow_c, t1616, ts92⟩
def m10_law : JM := (⟨"TemperCellarModel", "law", "(II)J"⟩, prog_12_method_73_code, 3, some .long)
theorem m10_law_c : MC m10_law 2 := ⟨t1609, t12, by decide +kernel, by decide⟩
theorem m10_law_v : MV m10_law 2 := ⟨m10_law_c, t1607, t1608⟩
def m10_keepNow : JM := (⟨"TemperCellarModel", "keepNow", "()V"⟩, prog_12_method_74_code, 2, none)
theorem m10_keepNow_c : MC m10_keepNow 0 := ⟨t1654, t12, by decide +kernel, by decide⟩
theorem m10_keepNow_v : MV m10_keepNow 0 := ⟨m10_keepNow_c, t1653, ts98⟩
def m10_rack : JM := (⟨"TemperCellarModel", "rack", "(II)Z"⟩, prog_12_method_75_code, 3, some .boolean)
theorem m10_rack_c : MC m10_rack 2 := ⟨t1650, t12, by decide +kernel, by decide⟩
theorem m10_rack_v : MV m10_rack 2 := ⟨m10_rack_c, t1648, t1649⟩
def m10_seal : JM := (⟨"TemperCellarModel", "seal", "(I)I"⟩, prog_12_method_76_code, 2, some .int)
theorem m10_seal_c : MC m10_seal 1 := ⟨t1662, t12, by decide +kernel, by decide⟩
theorem m10_seal_v : MV m10_seal 1 := ⟨m10_seal_c, t1660, t1661⟩
def m10_open : JM := (⟨"TemperCellarModel", "open", "(I)I"⟩, prog_12_method_77_code, 2, some .int)
theorem m10_open_c : MC m10_open 1 := ⟨t1666, t12, by decide +kernel, by decide⟩
theorem m10_open_v : MV m10_open 1 := ⟨m10_open_c, t1664, t1665⟩
def m10_go : JM := (⟨"TemperCellarModel", "go", "(I)I"⟩, prog_12_method_78_code, 3, some .int)
theorem m10_go_c : MC m10_go 1 := ⟨t1670, t12, by decide +kernel, by decide⟩
theorem m10_go_v : MV m10_go 1 := ⟨m10_go_c, t1668, t1669⟩
def m10_ahead : JM := (⟨"TemperCellarModel", "ahead", "(III)I"⟩, prog_12_method_79_code, 4, some .int)
theorem m10_ahead_c : MC m10_ahead 3 := ⟨t1713, t12, by decide +kernel, by decide⟩
theorem m10_ahead_v : MV m10_ahead 3 := ⟨m10_ahead_c, t1711, t1712⟩
def m10_offMore : JM := (⟨"TemperCellarModel", "offMore", "()I"⟩, prog_12_method_80_code, 3, some .int)
theorem m10_offMore_c : MC m10_offMore 0 := ⟨t1741, t12, by decide +kernel, by decide⟩
theorem m10_offMore_v : MV m10_offMore 0 := ⟨m10_offMore_c, t1740, ts113⟩
def m10_firstOff : JM := (⟨"TemperCellarModel", "firstOff", "(I)I"⟩, prog_12_method_81_code, 3, some .int)
theorem m10_firstOff_c : MC m10_firstOff 1 := ⟨t1737, t12, by decide +kernel, by decide⟩
theorem m10_firstOff_v : MV m10_firstOff 1 := ⟨m10_firstOff_c, t1735, t1736⟩
def m10_chain : JM := (⟨"TemperCellarModel", "chain", "(I)I"⟩, prog_12_method_82_code, 2, some .int)
theorem m10_chain_c : MC m10_chain 1 := ⟨t1745, t12, by decide +kernel, by decide⟩
theorem m10_chain_v : MV m10_chain 1 := ⟨m10_chain_c, t1743, t1744⟩
def m10_layRacks : JM := (⟨"TemperCellarModel", "layRacks", "(I)V"⟩, prog_12_method_83_code, 4, none)
theorem m10_layRacks_c : MC m10_layRacks 1 := ⟨t1753, t12, by decide +kernel, by decide⟩
theorem m10_layRacks_v : MV m10_layRacks 1 := ⟨m10_layRacks_c, t1752, ts114⟩
def m10_racking : JM := (⟨"TemperCellarModel", "racking", "(II)I"⟩, prog_12_method_84_code, 3, some .int)
theorem m10_racking_c : MC m10_racking 2 := ⟨t1749, t12, by decide +kernel, by decide⟩
theorem m10_racking_v : MV m10_racking 2 := ⟨m10_racking_c, t1747, t1748⟩
def m10_fits : JM := (⟨"TemperCellarModel", "fits", "(II)Z"⟩, prog_12_method_85_code, 3, some .boolean)
theorem m10_fits_c : MC m10_fits 2 := ⟨t1765, t12, by decide +kernel, by decide⟩
theorem m10_fits_v : MV m10_fits 2 := ⟨m10_fits_c, t1764, ts116⟩
def m10_layServe : JM := (⟨"TemperCellarModel", "layServe", "()V"⟩, prog_12_method_86_code, 5, none)
theorem m10_layServe_c : MC m10_layServe 0 := ⟨t1761, t12, by decide +kernel, by decide⟩
theorem m10_layServe_v : MV m10_layServe 0 := ⟨m10_layServe_c, t1760, ts115⟩
def m10_servedBy : JM := (⟨"TemperCellarModel", "servedBy", "(II)I"⟩, prog_12_method_87_code, 4, some .int)
theorem m10_servedBy_c : MC m10_servedBy 2 := ⟨t1769, t12, by decide +kernel, by decide⟩
theorem m10_servedBy_v : MV m10_servedBy 2 := ⟨m10_servedBy_c, t1768, ts117⟩
def m10_serve : JM := (⟨"TemperCellarModel", "serve", "(I)I"⟩, prog_12_method_88_code, 5, some .int)
theorem m10_serve_c : MC m10_serve 1 := ⟨t1757, t12, by decide +kernel, by decide⟩
theorem m10_serve_v : MV m10_serve 1 := ⟨m10_serve_c, t1755, t1756⟩
def m10_served : JM := (⟨"TemperCellarModel", "served", "()I"⟩, prog_12_method_89_code, 1, some .int)
theorem m10_served_c : MC m10_served 0 := ⟨t1773, t12, by decide +kernel, by decide⟩
theorem m10_served_v : MV m10_served 0 := ⟨m10_served_c, t1771, t1772⟩
def m10_pour : JM := (⟨"TemperCellarModel", "pour", "(II)I"⟩, prog_12_method_90_code, 6, some .int)
theorem m10_pour_c : MC m10_pour 2 := ⟨t1777, t12, by decide +kernel, by decide⟩
theorem m10_pour_v : MV m10_pour 2 := ⟨m10_pour_c, t1775, t1776⟩
def m10_ripe : JM := (⟨"TemperCellarModel", "ripe", "(II)I"⟩, prog_12_method_91_code, 4, some .int)
theorem m10_ripe_c : MC m10_ripe 2 := ⟨t1781, t12, by decide +kernel, by decide⟩
theorem m10_ripe_v : MV m10_ripe 2 := ⟨m10_ripe_c, t1779, t1780⟩
def m10_dowry : JM := (⟨"TemperCellarModel", "dowry", "(II)I"⟩, prog_12_method_92_code, 8, some .int)
theorem m10_dowry_c : MC m10_dowry 2 := ⟨t1785, t12, by decide +kernel, by decide⟩
theorem m10_dowry_v : MV m10_dowry 2 := ⟨m10_dowry_c, t1783, t1784⟩
def m10_strongest : JM := (⟨"TemperCellarModel", "strongest", "(I)I"⟩, prog_12_method_93_code, 4, some .int)
theorem m10_strongest_c : MC m10_strongest 1 := ⟨t1798, t12, by decide +kernel, by decide⟩
theorem m10_strongest_v : MV m10_strongest 1 := ⟨m10_strongest_c, t1797, ts119⟩
def m10_comesBack : JM := (⟨"TemperCellarModel", "comesBack", "(I)Z"⟩, prog_12_method_94_code, 5, some .boolean)
theorem m10_comesBack_c : MC m10_comesBack 1 := ⟨t1794, t12, by decide +kernel, by decide⟩
theorem m10_comesBack_v : MV m10_comesBack 1 := ⟨m10_comesBack_c, t1793, ts118⟩
def m10_ring : JM := (⟨"TemperCellarModel", "ring", "()I"⟩, prog_12_method_95_code, 3, some .int)
theorem m10_ring_c : MC m10_ring 0 := ⟨t1790, t12, by decide +kernel, by decide⟩
theorem m10_ring_v : MV m10_ring 0 := ⟨m10_ring_c, t1788, t1789⟩
def m10_angerOf : JM := (⟨"TemperCellarModel", "angerOf", "(I)I"⟩, prog_12_method_96_code, 3, some .int)
theorem m10_angerOf_c : MC m10_angerOf 1 := ⟨t1822, t12, by decide +kernel, by decide⟩
theorem m10_angerOf_v : MV m10_angerOf 1 := ⟨m10_angerOf_c, t1821, ts124⟩
def m10_hasOf : JM := (⟨"TemperCellarModel", "hasOf", "(IIII)I"⟩, prog_12_method_97_code, 7, some .int)
theorem m10_hasOf_c : MC m10_hasOf 4 := ⟨t1818, t12, by decide +kernel, by decide⟩
theorem m10_hasOf_v : MV m10_hasOf 4 := ⟨m10_hasOf_c, t1817, ts123⟩
def m10_isRest : JM := (⟨"TemperCellarModel", "isRest", "(III)Z"⟩, prog_12_method_98_code, 6, some .boolean)
theorem m10_isRest_c : MC m10_isRest 3 := ⟨t1814, t12, by decide +kernel, by decide⟩
theorem m10_isRest_v : MV m10_isRest 3 := ⟨m10_isRest_c, t1813, ts122⟩
def m10_restOf : JM := (⟨"TemperCellarModel", "restOf", "(III)I"⟩, prog_12_method_99_code, 6, some .int)
theorem m10_restOf_c : MC m10_restOf 3 := ⟨t1810, t12, by decide +kernel, by decide⟩
theorem m10_restOf_v : MV m10_restOf 3 := ⟨m10_restOf_c, t1809, ts121⟩
def m10_areTwo : JM := (⟨"TemperCellarModel", "areTwo", "(II)Z"⟩, prog_12_method_100_code, 3, some .boolean)
theorem m10_areTwo_c : MC m10_areTwo 2 := ⟨t1806, t12, by decide +kernel, by decide⟩
theorem m10_areTwo_v : MV m10_areTwo 2 := ⟨m10_areTwo_c, t1805, ts120⟩
def m10_rests : JM := (⟨"TemperCellarModel", "rests", "(II)I"⟩, prog_12_method_101_code, 3, some .int)
theorem m10_rests_c : MC m10_rests 2 := ⟨t1802, t12, by decide +kernel, by decide⟩
theorem m10_rests_v : MV m10_rests 2 := ⟨m10_rests_c, t1800, t1801⟩
def m10_rest : JM := (⟨"TemperCellarModel", "rest", "(III)I"⟩, prog_12_method_102_code, 4, some .int)
theorem m10_rest_c : MC m10_rest 3 := ⟨t1826, t12, by decide +kernel, by decide⟩
theorem m10_rest_v : MV m10_rest 3 := ⟨m10_rest_c, t1824, t1825⟩
def m10_common : JM := (⟨"TemperCellarModel", "common", "(JJ)J"⟩, prog_12_method_103_code, 10, some .long)
theorem m10_common_c : MC m10_common 2 := ⟨t1839, t12, by decide +kernel, by decide⟩
theorem m10_common_s : MS m10_common 2 := ⟨m10_common_c, t1838⟩
def m10_waysOf : JM := (⟨"TemperCellarModel", "waysOf", "(II)J"⟩, prog_12_method_104_code, 6, some .long)
theorem m10_waysOf_c : MC m10_waysOf 2 := ⟨t1835, t12, by decide +kernel, by decide⟩
theorem m10_waysOf_v : MV m10_waysOf 2 := ⟨m10_waysOf_c, t1834, ts125⟩
def m10_lasts : JM := (⟨"TemperCellarModel", "lasts", "(III)J"⟩, prog_12_method_105_code, 10, some .long)
theorem m10_lasts_c : MC m10_lasts 3 := ⟨t1830, t12, by decide +kernel, by decide⟩
theorem m10_lasts_v : MV m10_lasts 3 := ⟨m10_lasts_c, t1828, t1829⟩
def m10_see : JM := (⟨"TemperCellarModel", "see", "(IIZ)I"⟩, prog_12_method_106_code, 4, some .int)
theorem m10_see_c : MC m10_see 3 := ⟨t1843, t12, by decide +kernel, by decide⟩
theorem m10_see_v : MV m10_see 3 := ⟨m10_see_c, t1841, t1842⟩
def m10_out : JM := (⟨"TemperCellarModel", "out", "(I)I"⟩, prog_12_method_107_code, 2, some .int)
theorem m10_out_c : MC m10_out 1 := ⟨t1847, t12, by decide +kernel, by decide⟩
theorem m10_out_v : MV m10_out 1 := ⟨m10_out_c, t1845, t1846⟩
def m10_known : JM := (⟨"TemperCellarModel", "known", "(I)Z"⟩, prog_12_method_108_code, 2, some .boolean)
theorem m10_known_c : MC m10_known 1 := ⟨t1851, t12, by decide +kernel, by decide⟩
theorem m10_known_v : MV m10_known 1 := ⟨m10_known_c, t1849, t1850⟩
def m10_knownMany : JM := (⟨"TemperCellarModel", "knownMany", "()I"⟩, prog_12_method_109_code, 1, some .int)
theorem m10_knownMany_c : MC m10_knownMany 0 := ⟨t1859, t12, by decide +kernel, by decide⟩
theorem m10_knownMany_v : MV m10_knownMany 0 := ⟨m10_knownMany_c, t1858, ts126⟩
def m10_isSo : JM := (⟨"TemperCellarModel", "isSo", "(I)Z"⟩, prog_12_method_110_code, 3, some .boolean)
theorem m10_isSo_c : MC m10_isSo 1 := ⟨t1867, t12, by decide +kernel, by decide⟩
theorem m10_isSo_v : MV m10_isSo 1 := ⟨m10_isSo_c, t1866, ts128⟩
def m10_fitsCork : JM := (⟨"TemperCellarModel", "fitsCork", "(III)Z"⟩, prog_12_method_111_code, 5, some .boolean)
theorem m10_fitsCork_c : MC m10_fitsCork 3 := ⟨t1863, t12, by decide +kernel, by decide⟩
theorem m10_fitsCork_v : MV m10_fitsCork 3 := ⟨m10_fitsCork_c, t1862, ts127⟩
def m10_corks : JM := (⟨"TemperCellarModel", "corks", "(I)I"⟩, prog_12_method_112_code, 5, some .int)
theorem m10_corks_c : MC m10_corks 1 := ⟨t1855, t12, by decide +kernel, by decide⟩
theorem m10_corks_v : MV m10_corks 1 := ⟨m10_corks_c, t1853, t1854⟩
def m10_chance : JM := (⟨"TemperCellarModel", "chance", "(III)I"⟩, prog_12_method_113_code, 8, some .int)
theorem m10_chance_c : MC m10_chance 3 := ⟨t1871, t12, by decide +kernel, by decide⟩
theorem m10_chance_v : MV m10_chance 3 := ⟨m10_chance_c, t1869, t1870⟩
def m10_tried : JM := (⟨"TemperCellarModel", "tried", "(III)I"⟩, prog_12_method_114_code, 6, some .int)
theorem m10_tried_c : MC m10_tried 3 := ⟨t1875, t12, by decide +kernel, by decide⟩
theorem m10_tried_v : MV m10_tried 3 := ⟨m10_tried_c, t1873, t1874⟩
def m10_undo : JM := (⟨"TemperCellarModel", "undo", "()I"⟩, prog_12_method_115_code, 1, some .int)
theorem m10_undo_c : MC m10_undo 0 := ⟨t1879, t12, by decide +kernel, by decide⟩
theorem m10_undo_v : MV m10_undo 0 := ⟨m10_undo_c, t1877, t1878⟩
def m10_keep : JM := (⟨"TemperCellarModel", "keep", "()I"⟩, prog_12_method_116_code, 1, some .int)
theorem m10_keep_c : MC m10_keep 0 := ⟨t1883, t12, by decide +kernel, by decide⟩
theorem m10_keep_v : MV m10_keep 0 := ⟨m10_keep_c, t1881, t1882⟩
def m10_back : JM := (⟨"TemperCellarModel", "back", "()I"⟩, prog_12_method_117_code, 1, some .int)
theorem m10_back_c : MC m10_back 0 := ⟨t1887, t12, by decide +kernel, by decide⟩
theorem m10_back_v : MV m10_back 0 := ⟨m10_back_c, t1885, t1886⟩
def m10_count : JM := (⟨"TemperCellarModel", "count", "(I)I"⟩, prog_12_method_118_code, 2, some .int)
theorem m10_count_c : MC m10_count 1 := ⟨t1891, t12, by decide +kernel, by decide⟩
theorem m10_count_v : MV m10_count 1 := ⟨m10_count_c, t1889, t1890⟩
def mJ_bitCount : JM := (⟨"java/lang/Integer", "bitCount", "(I)I"⟩, prog_18_method_49_code, 1, some .int)
theorem mJ_bitCount_c : MC mJ_bitCount 1 := ⟨t723, t23, by decide +kernel, by decide⟩
theorem mJ_bitCount_s : MS mJ_bitCount 1 := ⟨mJ_bitCount_c, t722⟩
def mJ_abs : JM := (⟨"java/lang/Math", "abs", "(I)I"⟩, prog_19_method_59_code, 1, some .int)
theorem mJ_abs_c : MC mJ_abs 1 := ⟨t998, t13, by decide +kernel, by decide⟩
theorem mJ_abs_s : MS mJ_abs 1 := ⟨mJ_abs_c, t997⟩
def mJ_abs2 : JM := (⟨"java/lang/Math", "abs", "(J)J"⟩, prog_19_method_61_code, 2, some .long)
theorem mJ_abs2_c : MC mJ_abs2 1 := ⟨t1644, t13, by decide +kernel, by decide⟩
theorem mJ_abs2_s : MS mJ_abs2 1 := ⟨mJ_abs2_c, t1643⟩
def mJ_max : JM := (⟨"java/lang/Math", "max", "(II)I"⟩, prog_19_method_65_code, 2, some .int)
theorem mJ_max_c : MC mJ_max 2 := ⟨t851, t13, by decide +kernel, by decide⟩
theorem mJ_max_s : MS mJ_max 2 := ⟨mJ_max_c, t850⟩
def mJ_max2 : JM := (⟨"java/lang/Math", "max", "(JJ)J"⟩, prog_19_method_66_code, 4, some .long)
theorem mJ_max2_c : MC mJ_max2 2 := ⟨t848, t13, by decide +kernel, by decide⟩
theorem mJ_max2_s : MS mJ_max2 2 := ⟨mJ_max2_c, t847⟩
def mJ_min : JM := (⟨"java/lang/Math", "min", "(II)I"⟩, prog_19_method_69_code, 2, some .int)
theorem mJ_min_c : MC mJ_min 2 := ⟨t492, t13, by decide +kernel, by decide⟩
theorem mJ_min_s : MS mJ_min 2 := ⟨mJ_min_c, t491⟩
def mJ_min2 : JM := (⟨"java/lang/Math", "min", "(JJ)J"⟩, prog_19_method_70_code, 4, some .long)
theorem mJ_min2_c : MC mJ_min2 2 := ⟨t845, t13, by decide +kernel, by decide⟩
theorem mJ_min2_s : MS mJ_min2 2 := ⟨mJ_min2_c, t844⟩
def mJ_length : JM := (⟨"java/lang/String", "length", "()I"⟩, prog_21_method_54_code, 1, some .int)
theorem mJ_length_c : MC mJ_length 0 := ⟨t520, t14, by decide +kernel, by decide⟩
theorem mJ_length_v : MV mJ_length 0 := ⟨mJ_length_c, t518, t519⟩
def mJ_charAt : JM := (⟨"java/lang/String", "charAt", "(I)C"⟩, prog_21_method_56_code, 2, some .char)
theorem mJ_charAt_c : MC mJ_charAt 1 := ⟨t530, t14, by decide +kernel, by decide⟩
theorem mJ_charAt_v : MV mJ_charAt 1 := ⟨mJ_charAt_c, t528, t529⟩
def mJ_coder : JM := (⟨"java/lang/String", "coder", "()B"⟩, prog_21_method_152_code, 1, some .byte)
theorem mJ_coder_c : MC mJ_coder 0 := ⟨t524, t14, by decide +kernel, by decide⟩
theorem mJ_coder_v : MV mJ_coder 0 := ⟨mJ_coder_c, t522, t523⟩
def mJ_isLatin1 : JM := (⟨"java/lang/String", "isLatin1", "()Z"⟩, prog_21_method_154_code, 1, some .boolean)
theorem mJ_isLatin1_c : MC mJ_isLatin1 0 := ⟨t534, t14, by decide +kernel, by decide⟩
theorem mJ_isLatin1_v : MV mJ_isLatin1 0 := ⟨mJ_isLatin1_c, t532, t533⟩
def mJ_checkIndex : JM := (⟨"java/lang/String", "checkIndex", "(II)V"⟩, prog_21_method_155_code, 2, none)
theorem mJ_checkIndex_c : MC mJ_checkIndex 2 := ⟨t540, t14, by decide +kernel, by decide⟩
theorem mJ_checkIndex_s : MS mJ_checkIndex 2 := ⟨mJ_checkIndex_c, t539⟩
def mJ_charAt2 : JM := (⟨"java/lang/StringLatin1", "charAt", "([BI)C"⟩, prog_22_method_2_code, 2, some .char)
theorem mJ_charAt2_c : MC mJ_charAt2 2 := ⟨t537, t15, by decide +kernel, by decide⟩
theorem mJ_charAt2_s : MS mJ_charAt2 2 := ⟨mJ_charAt2_c, t536⟩
def mJ_getChar : JM := (⟨"java/lang/StringUTF16", "getChar", "([BI)C"⟩, prog_23_method_5_code, 2, some .char)
theorem mJ_getChar_c : MC mJ_getChar 2 := ⟨t558, t17, by decide +kernel, by decide⟩
theorem mJ_getChar_s : MS mJ_getChar 2 := ⟨mJ_getChar_c, t557⟩
def mJ_length2 : JM := (⟨"java/lang/StringUTF16", "length", "([B)I"⟩, prog_23_method_6_code, 1, some .int)
theorem mJ_length2_c : MC mJ_length2 1 := ⟨t554, t17, by decide +kernel, by decide⟩
theorem mJ_length2_s : MS mJ_length2 1 := ⟨mJ_length2_c, t553⟩
def mJ_charAt3 : JM := (⟨"java/lang/StringUTF16", "charAt", "([BI)C"⟩, prog_23_method_83_code, 2, some .char)
theorem mJ_charAt3_c : MC mJ_charAt3 2 := ⟨t548, t17, by decide +kernel, by decide⟩
theorem mJ_charAt3_s : MS mJ_charAt3 2 := ⟨mJ_charAt3_c, t547⟩
def mJ_checkIndex2 : JM := (⟨"java/lang/StringUTF16", "checkIndex", "(I[B)V"⟩, prog_23_method_91_code, 2, none)
theorem mJ_checkIndex2_c : MC mJ_checkIndex2 2 := ⟨t551, t17, by decide +kernel, by decide⟩
theorem mJ_checkIndex2_s : MS mJ_checkIndex2 2 := ⟨mJ_checkIndex2_c, t550⟩
def mJ_fill : JM := (⟨"java/util/Arrays", "fill", "([II)V"⟩, prog_28_method_103_code, 4, none)
theorem mJ_fill_c : MC mJ_fill 2 := ⟨t51, t4, by decide +kernel, by decide⟩
theorem mJ_fill_s : MS mJ_fill 2 := ⟨mJ_fill_c, t50⟩
def mJ_checkIndex3 : JM := (⟨"jdk/internal/util/Preconditions", "checkIndex", "(IILjava/util/function/BiFunction;)I"⟩, prog_30_method_11_code, 3, some .int)
theorem mJ_checkIndex3_c : MC mJ_checkIndex3 3 := ⟨t545, t16, by decide +kernel, by decide⟩
theorem mJ_checkIndex3_s : MS mJ_checkIndex3 3 := ⟨mJ_checkIndex3_c, t544⟩
theorem fl1_9 : FL "TemperCellar$Laws" 9 1 0 := ⟨_, _, _, _, ko1, by decide, t52⟩
theorem fp1_9 : FP "TemperCellar$Laws" 9 1 0 (.array .int) true := ⟨_, _, _, _, ko1, by decide, t52, rfl, kto1 0 (by decide), fun _ => rfl⟩
theorem fl8_175 : FL "TemperCellar$Years" 175 1 0 := ⟨_, _, _, _, ko1, by decide, t53⟩
theorem fl2_172 : FL "TemperCellar$Reader" 172 1 0 := ⟨_, _, _, _, ko1, by decide, t54⟩
theorem fl1_15 : FL "TemperCellar$Laws" 15 1 1 := ⟨_, _, _, _, ko1, by decide, t55⟩
theorem fp1_15 : FP "TemperCellar$Laws" 15 1 1 (.array .int) true := ⟨_, _, _, _, ko1, by decide, t55, rfl, kto1 1 (by decide), fun _ => rfl⟩
theorem fl8_180 : FL "TemperCellar$Years" 180 1 1 := ⟨_, _, _, _, ko1, by decide, t56⟩
theorem fl2_182 : FL "TemperCellar$Reader" 182 1 1 := ⟨_, _, _, _, ko1, by decide, t57⟩
theorem fl1_18 : FL "TemperCellar$Laws" 18 1 2 := ⟨_, _, _, _, ko1, by decide, t58⟩
theorem fp1_18 : FP "TemperCellar$Laws" 18 1 2 (.array .int) true := ⟨_, _, _, _, ko1, by decide, t58, rfl, kto1 2 (by decide), fun _ => rfl⟩
theorem fl8_183 : FL "TemperCellar$Years" 183 1 2 := ⟨_, _, _, _, ko1, by decide, t59⟩
theorem fl1_21 : FL "TemperCellar$Laws" 21 1 3 := ⟨_, _, _, _, ko1, by decide, t60⟩
theorem fp1_21 : FP "TemperCellar$Laws" 21 1 3 (.array .int) true := ⟨_, _, _, _, ko1, by decide, t60, rfl, kto1 3 (by decide), fun _ => rfl⟩
theorem fl8_186 : FL "TemperCellar$Years" 186 1 3 := ⟨_, _, _, _, ko1, by decide, t61⟩
theorem fl1_33 : FL "TemperCellar$Laws" 33 1 4 := ⟨_, _, _, _, ko1, by decide, t62⟩
theorem fp1_33 : FP "TemperCellar$Laws" 33 1 4 .int false := ⟨_, _, _, _, ko1, by decide, t62, rfl, kto1 4 (by decide), fun h => nomatch h⟩
theorem fl2_175 : FL "TemperCellar$Reader" 175 1 4 := ⟨_, _, _, _, ko1, by decide, t63⟩
theorem fp2_175 : FP "TemperCellar$Reader" 175 1 4 .int false := ⟨_, _, _, _, ko1, by decide, t63, rfl, kto1 4 (by decide), fun h => nomatch h⟩
theorem fl1_37 : FL "TemperCellar$Laws" 37 1 5 := ⟨_, _, _, _, ko1, by decide, t64⟩
theorem fp1_37 : FP "TemperCellar$Laws" 37 1 5 .int false := ⟨_, _, _, _, ko1, by decide, t64, rfl, kto1 5 (by decide), fun h => nomatch h⟩
theorem fl2_200 : FL "TemperCellar$Reader" 200 1 5 := ⟨_, _, _, _, ko1, by decide, t65⟩
theorem fp2_200 : FP "TemperCellar$Reader" 200 1 5 .int false := ⟨_, _, _, _, ko1, by decide, t65, rfl, kto1 5 (by decide), fun h => nomatch h⟩
theorem fl9_392 : FL "TemperCellar" 392 1 5 := ⟨_, _, _, _, ko1, by decide, t66⟩
theorem fp9_392 : FP "TemperCellar" 392 1 5 .int false := ⟨_, _, _, _, ko1, by decide, t66, rfl, kto1 5 (by decide), fun h => nomatch h⟩
theorem fl6_55 : FL "TemperCellar$Told" 55 6 0 := ⟨_, _, _, _, ko6, by decide, t82⟩
theorem fp6_55 : FP "TemperCellar$Told" 55 6 0 .int false := ⟨_, _, _, _, ko6, by decide, t82, rfl, kto6 0 (by decide), fun h => nomatch h⟩
theorem fl2_84 : FL "TemperCellar$Reader" 84 6 0 := ⟨_, _, _, _, ko6, by decide, t83⟩
theorem fp2_84 : FP "TemperCellar$Reader" 84 6 0 .int false := ⟨_, _, _, _, ko6, by decide, t83, rfl, kto6 0 (by decide), fun h => nomatch h⟩
theorem fl9_302 : FL "TemperCellar" 302 6 0 := ⟨_, _, _, _, ko6, by decide, t84⟩
theorem fp9_302 : FP "TemperCellar" 302 6 0 .int false := ⟨_, _, _, _, ko6, by decide, t84, rfl, kto6 0 (by decide), fun h => nomatch h⟩
theorem fl6_9 : FL "TemperCellar$Told" 9 6 1 := ⟨_, _, _, _, ko6, by decide, t85⟩
theorem fp6_9 : FP "TemperCellar$Told" 9 6 1 (.array .int) true := ⟨_, _, _, _, ko6, by decide, t85, rfl, kto6 1 (by decide), fun _ => rfl⟩
theorem fl2_90 : FL "TemperCellar$Reader" 90 6 1 := ⟨_, _, _, _, ko6, by decide, t86⟩
theorem fl6_15 : FL "TemperCellar$Told" 15 6 2 := ⟨_, _, _, _, ko6, by decide, t87⟩
theorem fp6_15 : FP "TemperCellar$Told" 15 6 2 (.array .int) true := ⟨_, _, _, _, ko6, by decide, t87, rfl, kto6 2 (by decide), fun _ => rfl⟩
theorem fl9_170 : FL "TemperCellar" 170 6 2 := ⟨_, _, _, _, ko6, by decide, t88⟩
theorem fl2_102 : FL "TemperCellar$Reader" 102 6 2 := ⟨_, _, _, _, ko6, by decide, t89⟩
theorem fl8_203 : FL "TemperCellar$Years" 203 6 2 := ⟨_, _, _, _, ko6, by decide, t90⟩
theorem fl6_59 : FL "TemperCellar$Told" 59 6 3 := ⟨_, _, _, _, ko6, by decide, t91⟩
theorem fp6_59 : FP "TemperCellar$Told" 59 6 3 .int false := ⟨_, _, _, _, ko6, by decide, t91, rfl, kto6 3 (by decide), fun h => nomatch h⟩
theorem fl0_61 : FL "TemperCellar$Cellar" 61 6 3 := ⟨_, _, _, _, ko6, by decide, t92⟩
theorem fp0_61 : FP "TemperCellar$Cellar" 61 6 3 .int false := ⟨_, _, _, _, ko6, by decide, t92, rfl, kto6 3 (by decide), fun h => nomatch h⟩
theorem fl4_46 : FL "TemperCellar$Service" 46 6 3 := ⟨_, _, _, _, ko6, by decide, t93⟩
theorem fp4_46 : FP "TemperCellar$Service" 46 6 3 .int false := ⟨_, _, _, _, ko6, by decide, t93, rfl, kto6 3 (by decide), fun h => nomatch h⟩
theorem fl8_51 : FL "TemperCellar$Years" 51 6 3 := ⟨_, _, _, _, ko6, by decide, t94⟩
theorem fp8_51 : FP "TemperCellar$Years" 51 6 3 .int false := ⟨_, _, _, _, ko6, by decide, t94, rfl, kto6 3 (by decide), fun h => nomatch h⟩
theorem fl2_109 : FL "TemperCellar$Reader" 109 6 3 := ⟨_, _, _, _, ko6, by decide, t95⟩
theorem fp2_109 : FP "TemperCellar$Reader" 109 6 3 .int false := ⟨_, _, _, _, ko6, by decide, t95, rfl, kto6 3 (by decide), fun h => nomatch h⟩
theorem fl9_208 : FL "TemperCellar" 208 6 3 := ⟨_, _, _, _, ko6, by decide, t96⟩
theorem fp9_208 : FP "TemperCellar" 208 6 3 .int false := ⟨_, _, _, _, ko6, by decide, t96, rfl, kto6 3 (by decide), fun h => nomatch h⟩
theorem fl6_18 : FL "TemperCellar$Told" 18 6 4 := ⟨_, _, _, _, ko6, by decide, t97⟩
theorem fp6_18 : FP "TemperCellar$Told" 18 6 4 (.array .int) true := ⟨_, _, _, _, ko6, by decide, t97, rfl, kto6 4 (by decide), fun _ => rfl⟩
theorem fl2_112 : FL "TemperCellar$Reader" 112 6 4 := ⟨_, _, _, _, ko6, by decide, t98⟩
theorem fl6_21 : FL "TemperCellar$Told" 21 6 5 := ⟨_, _, _, _, ko6, by decide, t99⟩
theorem fp6_21 : FP "TemperCellar$Told" 21 6 5 (.array .int) true := ⟨_, _, _, _, ko6, by decide, t99, rfl, kto6 5 (by decide), fun _ => rfl⟩
theorem fl9_141 : FL "TemperCellar" 141 6 5 := ⟨_, _, _, _, ko6, by decide, t100⟩
theorem fl2_118 : FL "TemperCellar$Reader" 118 6 5 := ⟨_, _, _, _, ko6, by decide, t101⟩
theorem fl8_158 : FL "TemperCellar$Years" 158 6 5 := ⟨_, _, _, _, ko6, by decide, t102⟩
theorem fl6_24 : FL "TemperCellar$Told" 24 6 6 := ⟨_, _, _, _, ko6, by decide, t103⟩
theorem fp6_24 : FP "TemperCellar$Told" 24 6 6 (.array .int) true := ⟨_, _, _, _, ko6, by decide, t103, rfl, kto6 6 (by decide), fun _ => rfl⟩
theorem fl9_144 : FL "TemperCellar" 144 6 6 := ⟨_, _, _, _, ko6, by decide, t104⟩
theorem fl2_124 : FL "TemperCellar$Reader" 124 6 6 := ⟨_, _, _, _, ko6, by decide, t105⟩
theorem fl8_152 : FL "TemperCellar$Years" 152 6 6 := ⟨_, _, _, _, ko6, by decide, t106⟩
theorem fl6_27 : FL "TemperCellar$Told" 27 6 7 := ⟨_, _, _, _, ko6, by decide, t107⟩
theorem fp6_27 : FP "TemperCellar$Told" 27 6 7 (.array .int) true := ⟨_, _, _, _, ko6, by decide, t107, rfl, kto6 7 (by decide), fun _ => rfl⟩
theorem fl0_64 : FL "TemperCellar$Cellar" 64 6 7 := ⟨_, _, _, _, ko6, by decide, t108⟩
theorem fl2_127 : FL "TemperCellar$Reader" 127 6 7 := ⟨_, _, _, _, ko6, by decide, t109⟩
theorem fl6_30 : FL "TemperCellar$Told" 30 6 8 := ⟨_, _, _, _, ko6, by decide, t110⟩
theorem fp6_30 : FP "TemperCellar$Told" 30 6 8 (.array .int) true := ⟨_, _, _, _, ko6, by decide, t110, rfl, kto6 8 (by decide), fun _ => rfl⟩
theorem fl0_65 : FL "TemperCellar$Cellar" 65 6 8 := ⟨_, _, _, _, ko6, by decide, t111⟩
theorem fl2_130 : FL "TemperCellar$Reader" 130 6 8 := ⟨_, _, _, _, ko6, by decide, t112⟩
theorem fl6_33 : FL "TemperCellar$Told" 33 6 9 := ⟨_, _, _, _, ko6, by decide, t113⟩
theorem fp6_33 : FP "TemperCellar$Told" 33 6 9 (.array .int) true := ⟨_, _, _, _, ko6, by decide, t113, rfl, kto6 9 (by decide), fun _ => rfl⟩
theorem fl0_66 : FL "TemperCellar$Cellar" 66 6 9 := ⟨_, _, _, _, ko6, by decide, t114⟩
theorem fl2_133 : FL "TemperCellar$Reader" 133 6 9 := ⟨_, _, _, _, ko6, by decide, t115⟩
theorem fl9_235 : FL "TemperCellar" 235 6 9 := ⟨_, _, _, _, ko6, by decide, t116⟩
theorem fl6_62 : FL "TemperCellar$Told" 62 6 10 := ⟨_, _, _, _, ko6, by decide, t117⟩
theorem fp6_62 : FP "TemperCellar$Told" 62 6 10 .int false := ⟨_, _, _, _, ko6, by decide, t117, rfl, kto6 10 (by decide), fun h => nomatch h⟩
theorem fl4_37 : FL "TemperCellar$Service" 37 6 10 := ⟨_, _, _, _, ko6, by decide, t118⟩
theorem fp4_37 : FP "TemperCellar$Service" 37 6 10 .int false := ⟨_, _, _, _, ko6, by decide, t118, rfl, kto6 10 (by decide), fun h => nomatch h⟩
theorem fl8_69 : FL "TemperCellar$Years" 69 6 10 := ⟨_, _, _, _, ko6, by decide, t119⟩
theorem fp8_69 : FP "TemperCellar$Years" 69 6 10 .int false := ⟨_, _, _, _, ko6, by decide, t119, rfl, kto6 10 (by decide), fun h => nomatch h⟩
theorem fl2_136 : FL "TemperCellar$Reader" 136 6 10 := ⟨_, _, _, _, ko6, by decide, t120⟩
theorem fp2_136 : FP "TemperCellar$Reader" 136 6 10 .int false := ⟨_, _, _, _, ko6, by decide, t120, rfl, kto6 10 (by decide), fun h => nomatch h⟩
theorem fl9_385 : FL "TemperCellar" 385 6 10 := ⟨_, _, _, _, ko6, by decide, t121⟩
theorem fp9_385 : FP "TemperCellar" 385 6 10 .int false := ⟨_, _, _, _, ko6, by decide, t121, rfl, kto6 10 (by decide), fun h => nomatch h⟩
theorem fl6_36 : FL "TemperCellar$Told" 36 6 11 := ⟨_, _, _, _, ko6, by decide, t122⟩
theorem fp6_36 : FP "TemperCellar$Told" 36 6 11 (.array .int) true := ⟨_, _, _, _, ko6, by decide, t122, rfl, kto6 11 (by decide), fun _ => rfl⟩
theorem fl9_190 : FL "TemperCellar" 190 6 11 := ⟨_, _, _, _, ko6, by decide, t123⟩
theorem fl2_139 : FL "TemperCellar$Reader" 139 6 11 := ⟨_, _, _, _, ko6, by decide, t124⟩
theorem fl8_139 : FL "TemperCellar$Years" 139 6 11 := ⟨_, _, _, _, ko6, by decide, t125⟩
theorem fl6_39 : FL "TemperCellar$Told" 39 6 12 := ⟨_, _, _, _, ko6, by decide, t126⟩
theorem fp6_39 : FP "TemperCellar$Told" 39 6 12 (.array .int) true := ⟨_, _, _, _, ko6, by decide, t126, rfl, kto6 12 (by decide), fun _ => rfl⟩
theorem fl8_72 : FL "TemperCellar$Years" 72 6 12 := ⟨_, _, _, _, ko6, by decide, t127⟩
theorem fl9_193 : FL "TemperCellar" 193 6 12 := ⟨_, _, _, _, ko6, by decide, t128⟩
theorem fl2_142 : FL "TemperCellar$Reader" 142 6 12 := ⟨_, _, _, _, ko6, by decide, t129⟩
theorem fl6_42 : FL "TemperCellar$Told" 42 6 13 := ⟨_, _, _, _, ko6, by decide, t130⟩
theorem fp6_42 : FP "TemperCellar$Told" 42 6 13 (.array .int) true := ⟨_, _, _, _, ko6, by decide, t130, rfl, kto6 13 (by decide), fun _ => rfl⟩
theorem fl4_59 : FL "TemperCellar$Service" 59 6 13 := ⟨_, _, _, _, ko6, by decide, t131⟩
theorem fl9_196 : FL "TemperCellar" 196 6 13 := ⟨_, _, _, _, ko6, by decide, t132⟩
theorem fl2_145 : FL "TemperCellar$Reader" 145 6 13 := ⟨_, _, _, _, ko6, by decide, t133⟩
theorem fl8_161 : FL "TemperCellar$Years" 161 6 13 := ⟨_, _, _, _, ko6, by decide, t134⟩
theorem fl6_45 : FL "TemperCellar$Told" 45 6 14 := ⟨_, _, _, _, ko6, by decide, t135⟩
theorem fp6_45 : FP "TemperCellar$Told" 45 6 14 (.array .int) true := ⟨_, _, _, _, ko6, by decide, t135, rfl, kto6 14 (by decide), fun _ => rfl⟩
theorem fl4_62 : FL "TemperCellar$Service" 62 6 14 := ⟨_, _, _, _, ko6, by decide, t136⟩
theorem fl9_199 : FL "TemperCellar" 199 6 14 := ⟨_, _, _, _, ko6, by decide, t137⟩
theorem fl2_148 : FL "TemperCellar$Reader" 148 6 14 := ⟨_, _, _, _, ko6, by decide, t138⟩
theorem fl8_164 : FL "TemperCellar$Years" 164 6 14 := ⟨_, _, _, _, ko6, by decide, t139⟩
theorem fl6_65 : FL "TemperCellar$Told" 65 6 15 := ⟨_, _, _, _, ko6, by decide, t140⟩
theorem fp6_65 : FP "TemperCellar$Told" 65 6 15 .int false := ⟨_, _, _, _, ko6, by decide, t140, rfl, kto6 15 (by decide), fun h => nomatch h⟩
theorem fl8_81 : FL "TemperCellar$Years" 81 6 15 := ⟨_, _, _, _, ko6, by decide, t141⟩
theorem fp8_81 : FP "TemperCellar$Years" 81 6 15 .int false := ⟨_, _, _, _, ko6, by decide, t141, rfl, kto6 15 (by decide), fun h => nomatch h⟩
theorem fl2_151 : FL "TemperCellar$Reader" 151 6 15 := ⟨_, _, _, _, ko6, by decide, t142⟩
theorem fp2_151 : FP "TemperCellar$Reader" 151 6 15 .int false := ⟨_, _, _, _, ko6, by decide, t142, rfl, kto6 15 (by decide), fun h => nomatch h⟩
theorem fl9_323 : FL "TemperCellar" 323 6 15 := ⟨_, _, _, _, ko6, by decide, t143⟩
theorem fp9_323 : FP "TemperCellar" 323 6 15 .int false := ⟨_, _, _, _, ko6, by decide, t143, rfl, kto6 15 (by decide), fun h => nomatch h⟩
theorem fl0_43 : FL "TemperCellar$Cellar" 43 6 16 := ⟨_, _, _, _, ko6, by decide, t144⟩
theorem fp0_43 : FP "TemperCellar$Cellar" 43 6 16 .int false := ⟨_, _, _, _, ko6, by decide, t144, rfl, kto6 16 (by decide), fun h => nomatch h⟩
theorem fl6_68 : FL "TemperCellar$Told" 68 6 16 := ⟨_, _, _, _, ko6, by decide, t145⟩
theorem fp6_68 : FP "TemperCellar$Told" 68 6 16 .int false := ⟨_, _, _, _, ko6, by decide, t145, rfl, kto6 16 (by decide), fun h => nomatch h⟩
theorem fl2_155 : FL "TemperCellar$Reader" 155 6 16 := ⟨_, _, _, _, ko6, by decide, t146⟩
theorem fp2_155 : FP "TemperCellar$Reader" 155 6 16 .int false := ⟨_, _, _, _, ko6, by decide, t146, rfl, kto6 16 (by decide), fun h => nomatch h⟩
theorem fl6_51 : FL "TemperCellar$Told" 51 6 17 := ⟨_, _, _, _, ko6, by decide, t147⟩
theorem fp6_51 : FP "TemperCellar$Told" 51 6 17 (.object "TemperCellar$Laws") true := ⟨_, _, _, _, ko6, by decide, t147, rfl, kto6 17 (by decide), fun _ => rfl⟩
theorem fl8_171 : FL "TemperCellar$Years" 171 6 17 := ⟨_, _, _, _, ko6, by decide, t148⟩
theorem fl2_162 : FL "TemperCellar$Reader" 162 6 17 := ⟨_, _, _, _, ko6, by decide, t149⟩
theorem fl9_388 : FL "TemperCellar" 388 6 17 := ⟨_, _, _, _, ko6, by decide, t150⟩
theorem fl5_21 : FL "TemperCellar$Tokens" 21 5 0 := ⟨_, _, _, _, ko5, by decide, t194⟩
theorem fp5_21 : FP "TemperCellar$Tokens" 21 5 0 (.array .byte) true := ⟨_, _, _, _, ko5, by decide, t194, rfl, kto5 0 (by decide), fun _ => rfl⟩
theorem fl5_9 : FL "TemperCellar$Tokens" 9 5 1 := ⟨_, _, _, _, ko5, by decide, t195⟩
theorem fp5_9 : FP "TemperCellar$Tokens" 9 5 1 (.array .int) true := ⟨_, _, _, _, ko5, by decide, t195, rfl, kto5 1 (by decide), fun _ => rfl⟩
theorem fl2_48 : FL "TemperCellar$Reader" 48 5 1 := ⟨_, _, _, _, ko5, by decide, t196⟩
theorem fl5_15 : FL "TemperCellar$Tokens" 15 5 2 := ⟨_, _, _, _, ko5, by decide, t197⟩
theorem fp5_15 : FP "TemperCellar$Tokens" 15 5 2 (.array .int) true := ⟨_, _, _, _, ko5, by decide, t197, rfl, kto5 2 (by decide), fun _ => rfl⟩
theorem fl2_56 : FL "TemperCellar$Reader" 56 5 2 := ⟨_, _, _, _, ko5, by decide, t198⟩
theorem fl5_18 : FL "TemperCellar$Tokens" 18 5 3 := ⟨_, _, _, _, ko5, by decide, t199⟩
theorem fp5_18 : FP "TemperCellar$Tokens" 18 5 3 (.array .int) true := ⟨_, _, _, _, ko5, by decide, t199, rfl, kto5 3 (by decide), fun _ => rfl⟩
theorem fl2_53 : FL "TemperCellar$Reader" 53 5 3 := ⟨_, _, _, _, ko5, by decide, t200⟩
theorem fl5_31 : FL "TemperCellar$Tokens" 31 5 4 := ⟨_, _, _, _, ko5, by decide, t201⟩
theorem fp5_31 : FP "TemperCellar$Tokens" 31 5 4 .int false := ⟨_, _, _, _, ko5, by decide, t201, rfl, kto5 4 (by decide), fun h => nomatch h⟩
theorem fl5_35 : FL "TemperCellar$Tokens" 35 5 5 := ⟨_, _, _, _, ko5, by decide, t202⟩
theorem fp5_35 : FP "TemperCellar$Tokens" 35 5 5 .int false := ⟨_, _, _, _, ko5, by decide, t202, rfl, kto5 5 (by decide), fun h => nomatch h⟩
theorem fl2_15 : FL "TemperCellar$Reader" 15 2 0 := ⟨_, _, _, _, ko2, by decide, t222⟩
theorem fp2_15 : FP "TemperCellar$Reader" 15 2 0 (.object "TemperCellar$Tokens") true := ⟨_, _, _, _, ko2, by decide, t222, rfl, kto2 0 (by decide), fun _ => rfl⟩
theorem fl2_38 : FL "TemperCellar$Reader" 38 2 1 := ⟨_, _, _, _, ko2, by decide, t223⟩
theorem fp2_38 : FP "TemperCellar$Reader" 38 2 1 .int false := ⟨_, _, _, _, ko2, by decide, t223, rfl, kto2 1 (by decide), fun h => nomatch h⟩
theorem fl2_19 : FL "TemperCellar$Reader" 19 2 2 := ⟨_, _, _, _, ko2, by decide, t224⟩
theorem fp2_19 : FP "TemperCellar$Reader" 19 2 2 (.object "TemperCellar$Told") false := ⟨_, _, _, _, ko2, by decide, t224, rfl, kto2 2 (by decide), fun h => nomatch h⟩
theorem fl2_28 : FL "TemperCellar$Reader" 28 2 3 := ⟨_, _, _, _, ko2, by decide, t225⟩
theorem fp2_28 : FP "TemperCellar$Reader" 28 2 3 .boolean false := ⟨_, _, _, _, ko2, by decide, t225, rfl, kto2 3 (by decide), fun h => nomatch h⟩
theorem fl2_32 : FL "TemperCellar$Reader" 32 2 4 := ⟨_, _, _, _, ko2, by decide, t226⟩
theorem fp2_32 : FP "TemperCellar$Reader" 32 2 4 .boolean false := ⟨_, _, _, _, ko2, by decide, t226, rfl, kto2 4 (by decide), fun h => nomatch h⟩
theorem fl2_35 : FL "TemperCellar$Reader" 35 2 5 := ⟨_, _, _, _, ko2, by decide, t227⟩
theorem fp2_35 : FP "TemperCellar$Reader" 35 2 5 .int false := ⟨_, _, _, _, ko2, by decide, t227, rfl, kto2 5 (by decide), fun h => nomatch h⟩
theorem fl9_117 : FL "TemperCellar" 117 2 5 := ⟨_, _, _, _, ko2, by decide, t228⟩
theorem fp9_117 : FP "TemperCellar" 117 2 5 .int false := ⟨_, _, _, _, ko2, by decide, t228, rfl, kto2 5 (by decide), fun h => nomatch h⟩
theorem fl2_9 : FL "TemperCellar$Reader" 9 2 6 := ⟨_, _, _, _, ko2, by decide, t229⟩
theorem fp2_9 : FP "TemperCellar$Reader" 9 2 6 .int false := ⟨_, _, _, _, ko2, by decide, t229, rfl, kto2 6 (by decide), fun h => nomatch h⟩
theorem fl9_120 : FL "TemperCellar" 120 2 6 := ⟨_, _, _, _, ko2, by decide, t230⟩
theorem fp9_120 : FP "TemperCellar" 120 2 6 .int false := ⟨_, _, _, _, ko2, by decide, t230, rfl, kto2 6 (by decide), fun h => nomatch h⟩
theorem fl0_39 : FL "TemperCellar$Cellar" 39 0 0 := ⟨_, _, _, _, ko0, by decide, t252⟩
theorem fp0_39 : FP "TemperCellar$Cellar" 39 0 0 .int false := ⟨_, _, _, _, ko0, by decide, t252, rfl, kto0 0 (by decide), fun h => nomatch h⟩
theorem fl8_75 : FL "TemperCellar$Years" 75 0 0 := ⟨_, _, _, _, ko0, by decide, t253⟩
theorem fp8_75 : FP "TemperCellar$Years" 75 0 0 .int false := ⟨_, _, _, _, ko0, by decide, t253, rfl, kto0 0 (by decide), fun h => nomatch h⟩
theorem fl9_243 : FL "TemperCellar" 243 0 0 := ⟨_, _, _, _, ko0, by decide, t254⟩
theorem fp9_243 : FP "TemperCellar" 243 0 0 .int false := ⟨_, _, _, _, ko0, by decide, t254, rfl, kto0 0 (by decide), fun h => nomatch h⟩
theorem fl0_48 : FL "TemperCellar$Cellar" 48 0 1 := ⟨_, _, _, _, ko0, by decide, t255⟩
theorem fp0_48 : FP "TemperCellar$Cellar" 48 0 1 .long false := ⟨_, _, _, _, ko0, by decide, t255, rfl, kto0 1 (by decide), fun h => nomatch h⟩
theorem fl8_84 : FL "TemperCellar$Years" 84 0 1 := ⟨_, _, _, _, ko0, by decide, t256⟩
theorem fp8_84 : FP "TemperCellar$Years" 84 0 1 .long false := ⟨_, _, _, _, ko0, by decide, t256, rfl, kto0 1 (by decide), fun h => nomatch h⟩
theorem fl9_361 : FL "TemperCellar" 361 0 1 := ⟨_, _, _, _, ko0, by decide, t257⟩
theorem fp9_361 : FP "TemperCellar" 361 0 1 .long false := ⟨_, _, _, _, ko0, by decide, t257, rfl, kto0 1 (by decide), fun h => nomatch h⟩
theorem fl0_52 : FL "TemperCellar$Cellar" 52 0 2 := ⟨_, _, _, _, ko0, by decide, t258⟩
theorem fp0_52 : FP "TemperCellar$Cellar" 52 0 2 .int false := ⟨_, _, _, _, ko0, by decide, t258, rfl, kto0 2 (by decide), fun h => nomatch h⟩
theorem fl8_98 : FL "TemperCellar$Years" 98 0 2 := ⟨_, _, _, _, ko0, by decide, t259⟩
theorem fp8_98 : FP "TemperCellar$Years" 98 0 2 .int false := ⟨_, _, _, _, ko0, by decide, t259, rfl, kto0 2 (by decide), fun h => nomatch h⟩
theorem fl9_400 : FL "TemperCellar" 400 0 2 := ⟨_, _, _, _, ko0, by decide, t260⟩
theorem fp9_400 : FP "TemperCellar" 400 0 2 .int false := ⟨_, _, _, _, ko0, by decide, t260, rfl, kto0 2 (by decide), fun h => nomatch h⟩
theorem fl0_9 : FL "TemperCellar$Cellar" 9 0 3 := ⟨_, _, _, _, ko0, by decide, t261⟩
theorem fp0_9 : FP "TemperCellar$Cellar" 9 0 3 (.array .int) true := ⟨_, _, _, _, ko0, by decide, t261, rfl, kto0 3 (by decide), fun _ => rfl⟩
theorem fl9_147 : FL "TemperCellar" 147 0 3 := ⟨_, _, _, _, ko0, by decide, t262⟩
theorem fl8_133 : FL "TemperCellar$Years" 133 0 3 := ⟨_, _, _, _, ko0, by decide, t263⟩
theorem fl0_15 : FL "TemperCellar$Cellar" 15 0 4 := ⟨_, _, _, _, ko0, by decide, t264⟩
theorem fp0_15 : FP "TemperCellar$Cellar" 15 0 4 (.array .int) true := ⟨_, _, _, _, ko0, by decide, t264, rfl, kto0 4 (by decide), fun _ => rfl⟩
theorem fl4_56 : FL "TemperCellar$Service" 56 0 4 := ⟨_, _, _, _, ko0, by decide, t265⟩
theorem fl8_110 : FL "TemperCellar$Years" 110 0 4 := ⟨_, _, _, _, ko0, by decide, t266⟩
theorem fl9_150 : FL "TemperCellar" 150 0 4 := ⟨_, _, _, _, ko0, by decide, t267⟩
theorem fl0_18 : FL "TemperCellar$Cellar" 18 0 5 := ⟨_, _, _, _, ko0, by decide, t268⟩
theorem fp0_18 : FP "TemperCellar$Cellar" 18 0 5 (.array .int) true := ⟨_, _, _, _, ko0, by decide, t268, rfl, kto0 5 (by decide), fun _ => rfl⟩
theorem fl8_62 : FL "TemperCellar$Years" 62 0 5 := ⟨_, _, _, _, ko0, by decide, t269⟩
theorem fl7_40 : FL "TemperCellar$Undos" 40 0 5 := ⟨_, _, _, _, ko0, by decide, t270⟩
theorem fl9_153 : FL "TemperCellar" 153 0 5 := ⟨_, _, _, _, ko0, by decide, t271⟩
theorem fl0_21 : FL "TemperCellar$Cellar" 21 0 6 := ⟨_, _, _, _, ko0, by decide, t272⟩
theorem fp0_21 : FP "TemperCellar$Cellar" 21 0 6 (.array .int) true := ⟨_, _, _, _, ko0, by decide, t272, rfl, kto0 6 (by decide), fun _ => rfl⟩
theorem fl9_156 : FL "TemperCellar" 156 0 6 := ⟨_, _, _, _, ko0, by decide, t273⟩
theorem fl3_55 : FL "TemperCellar$Seen" 55 0 6 := ⟨_, _, _, _, ko0, by decide, t274⟩
theorem fl0_24 : FL "TemperCellar$Cellar" 24 0 7 := ⟨_, _, _, _, ko0, by decide, t275⟩
theorem fp0_24 : FP "TemperCellar$Cellar" 24 0 7 (.array .int) true := ⟨_, _, _, _, ko0, by decide, t275, rfl, kto0 7 (by decide), fun _ => rfl⟩
theorem fl9_159 : FL "TemperCellar" 159 0 7 := ⟨_, _, _, _, ko0, by decide, t276⟩
theorem fl8_149 : FL "TemperCellar$Years" 149 0 7 := ⟨_, _, _, _, ko0, by decide, t277⟩
theorem fl0_27 : FL "TemperCellar$Cellar" 27 0 8 := ⟨_, _, _, _, ko0, by decide, t278⟩
theorem fp0_27 : FP "TemperCellar$Cellar" 27 0 8 (.array .int) true := ⟨_, _, _, _, ko0, by decide, t278, rfl, kto0 8 (by decide), fun _ => rfl⟩
theorem fl4_53 : FL "TemperCellar$Service" 53 0 8 := ⟨_, _, _, _, ko0, by decide, t279⟩
theorem fl9_202 : FL "TemperCellar" 202 0 8 := ⟨_, _, _, _, ko0, by decide, t280⟩
theorem fl8_146 : FL "TemperCellar$Years" 146 0 8 := ⟨_, _, _, _, ko0, by decide, t281⟩
theorem fl0_30 : FL "TemperCellar$Cellar" 30 0 9 := ⟨_, _, _, _, ko0, by decide, t282⟩
theorem fp0_30 : FP "TemperCellar$Cellar" 30 0 9 (.array .int) true := ⟨_, _, _, _, ko0, by decide, t282, rfl, kto0 9 (by decide), fun _ => rfl⟩
theorem fl9_184 : FL "TemperCellar" 184 0 9 := ⟨_, _, _, _, ko0, by decide, t283⟩
theorem fl0_33 : FL "TemperCellar$Cellar" 33 0 10 := ⟨_, _, _, _, ko0, by decide, t284⟩
theorem fp0_33 : FP "TemperCellar$Cellar" 33 0 10 (.array .int) true := ⟨_, _, _, _, ko0, by decide, t284, rfl, kto0 10 (by decide), fun _ => rfl⟩
theorem fl8_200 : FL "TemperCellar$Years" 200 0 10 := ⟨_, _, _, _, ko0, by decide, t285⟩
theorem fl0_36 : FL "TemperCellar$Cellar" 36 0 11 := ⟨_, _, _, _, ko0, by decide, t286⟩
theorem fp0_36 : FP "TemperCellar$Cellar" 36 0 11 (.array .int) true := ⟨_, _, _, _, ko0, by decide, t286, rfl, kto0 11 (by decide), fun _ => rfl⟩
theorem fl8_206 : FL "TemperCellar$Years" 206 0 11 := ⟨_, _, _, _, ko0, by decide, t287⟩
theorem fl8_19 : FL "TemperCellar$Years" 19 8 0 := ⟨_, _, _, _, ko8, by decide, t319⟩
theorem fp8_19 : FP "TemperCellar$Years" 19 8 0 (.object "TemperCellar$Told") false := ⟨_, _, _, _, ko8, by decide, t319, rfl, kto8 0 (by decide), fun h => nomatch h⟩
theorem fl8_23 : FL "TemperCellar$Years" 23 8 1 := ⟨_, _, _, _, ko8, by decide, t320⟩
theorem fp8_23 : FP "TemperCellar$Years" 23 8 1 (.object "TemperCellar$Cellar") false := ⟨_, _, _, _, ko8, by decide, t320, rfl, kto8 1 (by decide), fun h => nomatch h⟩
theorem fl8_27 : FL "TemperCellar$Years" 27 8 2 := ⟨_, _, _, _, ko8, by decide, t321⟩
theorem fp8_27 : FP "TemperCellar$Years" 27 8 2 .int false := ⟨_, _, _, _, ko8, by decide, t321, rfl, kto8 2 (by decide), fun h => nomatch h⟩
theorem fl8_31 : FL "TemperCellar$Years" 31 8 3 := ⟨_, _, _, _, ko8, by decide, t322⟩
theorem fp8_31 : FP "TemperCellar$Years" 31 8 3 .boolean false := ⟨_, _, _, _, ko8, by decide, t322, rfl, kto8 3 (by decide), fun h => nomatch h⟩
theorem fl9_371 : FL "TemperCellar" 371 8 3 := ⟨_, _, _, _, ko8, by decide, t323⟩
theorem fp9_371 : FP "TemperCellar" 371 8 3 .boolean false := ⟨_, _, _, _, ko8, by decide, t323, rfl, kto8 3 (by decide), fun h => nomatch h⟩
theorem fl8_35 : FL "TemperCellar$Years" 35 8 4 := ⟨_, _, _, _, ko8, by decide, t324⟩
theorem fp8_35 : FP "TemperCellar$Years" 35 8 4 .boolean false := ⟨_, _, _, _, ko8, by decide, t324, rfl, kto8 4 (by decide), fun h => nomatch h⟩
theorem fl9_374 : FL "TemperCellar" 374 8 4 := ⟨_, _, _, _, ko8, by decide, t325⟩
theorem fp9_374 : FP "TemperCellar" 374 8 4 .boolean false := ⟨_, _, _, _, ko8, by decide, t325, rfl, kto8 4 (by decide), fun h => nomatch h⟩
theorem fl8_9 : FL "TemperCellar$Years" 9 8 5 := ⟨_, _, _, _, ko8, by decide, t326⟩
theorem fp8_9 : FP "TemperCellar$Years" 9 8 5 (.array .int) true := ⟨_, _, _, _, ko8, by decide, t326, rfl, kto8 5 (by decide), fun _ => rfl⟩
theorem fl8_15 : FL "TemperCellar$Years" 15 8 6 := ⟨_, _, _, _, ko8, by decide, t327⟩
theorem fp8_15 : FP "TemperCellar$Years" 15 8 6 (.array .long) true := ⟨_, _, _, _, ko8, by decide, t327, rfl, kto8 6 (by decide), fun _ => rfl⟩
theorem fl7_21 : FL "TemperCellar$Undos" 21 7 0 := ⟨_, _, _, _, ko7, by decide, t350⟩
theorem fp7_21 : FP "TemperCellar$Undos" 21 7 0 .int false := ⟨_, _, _, _, ko7, by decide, t350, rfl, kto7 0 (by decide), fun h => nomatch h⟩
theorem fl9_377 : FL "TemperCellar" 377 7 0 := ⟨_, _, _, _, ko7, by decide, t351⟩
theorem fp9_377 : FP "TemperCellar" 377 7 0 .int false := ⟨_, _, _, _, ko7, by decide, t351, rfl, kto7 0 (by decide), fun h => nomatch h⟩
theorem fl7_9 : FL "TemperCellar$Undos" 9 7 1 := ⟨_, _, _, _, ko7, by decide, t352⟩
theorem fp7_9 : FP "TemperCellar$Undos" 9 7 1 (.array .int) true := ⟨_, _, _, _, ko7, by decide, t352, rfl, kto7 1 (by decide), fun _ => rfl⟩
theorem fl7_15 : FL "TemperCellar$Undos" 15 7 2 := ⟨_, _, _, _, ko7, by decide, t353⟩
theorem fp7_15 : FP "TemperCellar$Undos" 15 7 2 (.array .int) true := ⟨_, _, _, _, ko7, by decide, t353, rfl, kto7 2 (by decide), fun _ => rfl⟩
theorem fl7_18 : FL "TemperCellar$Undos" 18 7 3 := ⟨_, _, _, _, ko7, by decide, t354⟩
theorem fp7_18 : FP "TemperCellar$Undos" 18 7 3 (.array .int) true := ⟨_, _, _, _, ko7, by decide, t354, rfl, kto7 3 (by decide), fun _ => rfl⟩
theorem fl3_35 : FL "TemperCellar$Seen" 35 3 0 := ⟨_, _, _, _, ko3, by decide, t370⟩
theorem fp3_35 : FP "TemperCellar$Seen" 35 3 0 .int false := ⟨_, _, _, _, ko3, by decide, t370, rfl, kto3 0 (by decide), fun h => nomatch h⟩
theorem fl9_339 : FL "TemperCellar" 339 3 0 := ⟨_, _, _, _, ko3, by decide, t371⟩
theorem fp9_339 : FP "TemperCellar" 339 3 0 .int false := ⟨_, _, _, _, ko3, by decide, t371, rfl, kto3 0 (by decide), fun h => nomatch h⟩
theorem fl3_9 : FL "TemperCellar$Seen" 9 3 1 := ⟨_, _, _, _, ko3, by decide, t372⟩
theorem fp3_9 : FP "TemperCellar$Seen" 9 3 1 .int false := ⟨_, _, _, _, ko3, by decide, t372, rfl, kto3 1 (by decide), fun h => nomatch h⟩
theorem fl9_345 : FL "TemperCellar" 345 3 1 := ⟨_, _, _, _, ko3, by decide, t373⟩
theorem fp9_345 : FP "TemperCellar" 345 3 1 .int false := ⟨_, _, _, _, ko3, by decide, t373, rfl, kto3 1 (by decide), fun h => nomatch h⟩
theorem fl3_15 : FL "TemperCellar$Seen" 15 3 2 := ⟨_, _, _, _, ko3, by decide, t374⟩
theorem fp3_15 : FP "TemperCellar$Seen" 15 3 2 (.array .int) true := ⟨_, _, _, _, ko3, by decide, t374, rfl, kto3 2 (by decide), fun _ => rfl⟩
theorem fl3_19 : FL "TemperCellar$Seen" 19 3 3 := ⟨_, _, _, _, ko3, by decide, t375⟩
theorem fp3_19 : FP "TemperCellar$Seen" 19 3 3 (.array .int) true := ⟨_, _, _, _, ko3, by decide, t375, rfl, kto3 3 (by decide), fun _ => rfl⟩
theorem fl3_22 : FL "TemperCellar$Seen" 22 3 4 := ⟨_, _, _, _, ko3, by decide, t376⟩
theorem fp3_22 : FP "TemperCellar$Seen" 22 3 4 (.array .boolean) true := ⟨_, _, _, _, ko3, by decide, t376, rfl, kto3 4 (by decide), fun _ => rfl⟩
theorem fl3_26 : FL "TemperCellar$Seen" 26 3 5 := ⟨_, _, _, _, ko3, by decide, t377⟩
theorem fp3_26 : FP "TemperCellar$Seen" 26 3 5 (.array .int) true := ⟨_, _, _, _, ko3, by decide, t377, rfl, kto3 5 (by decide), fun _ => rfl⟩
theorem fl3_29 : FL "TemperCellar$Seen" 29 3 6 := ⟨_, _, _, _, ko3, by decide, t378⟩
theorem fp3_29 : FP "TemperCellar$Seen" 29 3 6 (.array .boolean) true := ⟨_, _, _, _, ko3, by decide, t378, rfl, kto3 6 (by decide), fun _ => rfl⟩
theorem fl3_32 : FL "TemperCellar$Seen" 32 3 7 := ⟨_, _, _, _, ko3, by decide, t379⟩
theorem fp3_32 : FP "TemperCellar$Seen" 32 3 7 (.array .boolean) true := ⟨_, _, _, _, ko3, by decide, t379, rfl, kto3 7 (by decide), fun _ => rfl⟩
theorem fl4_15 : FL "TemperCellar$Service" 15 4 0 := ⟨_, _, _, _, ko4, by decide, t404⟩
theorem fp4_15 : FP "TemperCellar$Service" 15 4 0 (.object "TemperCellar$Told") false := ⟨_, _, _, _, ko4, by decide, t404, rfl, kto4 0 (by decide), fun h => nomatch h⟩
theorem fl4_19 : FL "TemperCellar$Service" 19 4 1 := ⟨_, _, _, _, ko4, by decide, t405⟩
theorem fp4_19 : FP "TemperCellar$Service" 19 4 1 (.object "TemperCellar$Cellar") false := ⟨_, _, _, _, ko4, by decide, t405, rfl, kto4 1 (by decide), fun h => nomatch h⟩
theorem fl4_33 : FL "TemperCellar$Service" 33 4 2 := ⟨_, _, _, _, ko4, by decide, t406⟩
theorem fp4_33 : FP "TemperCellar$Service" 33 4 2 .int false := ⟨_, _, _, _, ko4, by decide, t406, rfl, kto4 2 (by decide), fun h => nomatch h⟩
theorem fl9_291 : FL "TemperCellar" 291 4 2 := ⟨_, _, _, _, ko4, by decide, t407⟩
theorem fp9_291 : FP "TemperCellar" 291 4 2 .int false := ⟨_, _, _, _, ko4, by decide, t407, rfl, kto4 2 (by decide), fun h => nomatch h⟩
theorem fl4_9 : FL "TemperCellar$Service" 9 4 3 := ⟨_, _, _, _, ko4, by decide, t408⟩
theorem fp4_9 : FP "TemperCellar$Service" 9 4 3 (.array .int) true := ⟨_, _, _, _, ko4, by decide, t408, rfl, kto4 3 (by decide), fun _ => rfl⟩
theorem fl9_288 : FL "TemperCellar" 288 4 3 := ⟨_, _, _, _, ko4, by decide, t409⟩
theorem fl9_11 : FL "TemperCellar" 11 9 0 := ⟨_, _, _, _, ko9, by decide, t428⟩
theorem fp9_11 : FP "TemperCellar" 11 9 0 (.array .byte) true := ⟨_, _, _, _, ko9, by decide, t428, rfl, kto9 0 (by decide), fun _ => rfl⟩
theorem fl9_94 : FL "TemperCellar" 94 9 1 := ⟨_, _, _, _, ko9, by decide, t429⟩
theorem fp9_94 : FP "TemperCellar" 94 9 1 .int false := ⟨_, _, _, _, ko9, by decide, t429, rfl, kto9 1 (by decide), fun h => nomatch h⟩
theorem fl9_18 : FL "TemperCellar" 18 9 2 := ⟨_, _, _, _, ko9, by decide, t430⟩
theorem fp9_18 : FP "TemperCellar" 18 9 2 (.object "TemperCellar$Told") false := ⟨_, _, _, _, ko9, by decide, t430, rfl, kto9 2 (by decide), fun h => nomatch h⟩
theorem fl9_22 : FL "TemperCellar" 22 9 3 := ⟨_, _, _, _, ko9, by decide, t431⟩
theorem fp9_22 : FP "TemperCellar" 22 9 3 (.object "TemperCellar$Told") false := ⟨_, _, _, _, ko9, by decide, t431, rfl, kto9 3 (by decide), fun h => nomatch h⟩
theorem fl9_30 : FL "TemperCellar" 30 9 4 := ⟨_, _, _, _, ko9, by decide, t432⟩
theorem fp9_30 : FP "TemperCellar" 30 9 4 (.object "TemperCellar$Tokens") true := ⟨_, _, _, _, ko9, by decide, t432, rfl, kto9 4 (by decide), fun _ => rfl⟩
theorem fl9_39 : FL "TemperCellar" 39 9 5 := ⟨_, _, _, _, ko9, by decide, t433⟩
theorem fp9_39 : FP "TemperCellar" 39 9 5 (.object "TemperCellar$Reader") true := ⟨_, _, _, _, ko9, by decide, t433, rfl, kto9 5 (by decide), fun _ => rfl⟩
theorem fl9_46 : FL "TemperCellar" 46 9 6 := ⟨_, _, _, _, ko9, by decide, t434⟩
theorem fp9_46 : FP "TemperCellar" 46 9 6 (.object "TemperCellar$Cellar") true := ⟨_, _, _, _, ko9, by decide, t434, rfl, kto9 6 (by decide), fun _ => rfl⟩
theorem fl9_50 : FL "TemperCellar" 50 9 7 := ⟨_, _, _, _, ko9, by decide, t435⟩
theorem fp9_50 : FP "TemperCellar" 50 9 7 (.object "TemperCellar$Cellar") true := ⟨_, _, _, _, ko9, by decide, t435, rfl, kto9 7 (by decide), fun _ => rfl⟩
theorem fl9_113 : FL "TemperCellar" 113 9 8 := ⟨_, _, _, _, ko9, by decide, t436⟩
theorem fp9_113 : FP "TemperCellar" 113 9 8 .boolean false := ⟨_, _, _, _, ko9, by decide, t436, rfl, kto9 8 (by decide), fun h => nomatch h⟩
theorem fl9_53 : FL "TemperCellar" 53 9 9 := ⟨_, _, _, _, ko9, by decide, t437⟩
theorem fp9_53 : FP "TemperCellar" 53 9 9 (.object "TemperCellar$Cellar") true := ⟨_, _, _, _, ko9, by decide, t437, rfl, kto9 9 (by decide), fun _ => rfl⟩
theorem fl9_61 : FL "TemperCellar" 61 9 10 := ⟨_, _, _, _, ko9, by decide, t438⟩
theorem fp9_61 : FP "TemperCellar" 61 9 10 (.object "TemperCellar$Years") true := ⟨_, _, _, _, ko9, by decide, t438, rfl, kto9 10 (by decide), fun _ => rfl⟩
theorem fl9_68 : FL "TemperCellar" 68 9 11 := ⟨_, _, _, _, ko9, by decide, t439⟩
theorem fp9_68 : FP "TemperCellar" 68 9 11 (.object "TemperCellar$Undos") true := ⟨_, _, _, _, ko9, by decide, t439, rfl, kto9 11 (by decide), fun _ => rfl⟩
theorem fl9_75 : FL "TemperCellar" 75 9 12 := ⟨_, _, _, _, ko9, by decide, t440⟩
theorem fp9_75 : FP "TemperCellar" 75 9 12 (.object "TemperCellar$Seen") true := ⟨_, _, _, _, ko9, by decide, t440, rfl, kto9 12 (by decide), fun _ => rfl⟩
theorem fl9_82 : FL "TemperCellar" 82 9 13 := ⟨_, _, _, _, ko9, by decide, t441⟩
theorem fp9_82 : FP "TemperCellar" 82 9 13 (.object "TemperCellar$Service") true := ⟨_, _, _, _, ko9, by decide, t441, rfl, kto9 13 (by decide), fun _ => rfl⟩
theorem fl9_86 : FL "TemperCellar" 86 9 14 := ⟨_, _, _, _, ko9, by decide, t442⟩
theorem fp9_86 : FP "TemperCellar" 86 9 14 (.array .int) true := ⟨_, _, _, _, ko9, by decide, t442, rfl, kto9 14 (by decide), fun _ => rfl⟩
theorem fl10_139 : FL "TemperCellarModel" 139 10 0 := ⟨_, _, _, _, ko10, by decide, t1226⟩
theorem fp10_139 : FP "TemperCellarModel" 139 10 0 .int false := ⟨_, _, _, _, ko10, by decide, t1226, rfl, kto10 0 (by decide), fun h => nomatch h⟩
theorem fl10_7 : FL "TemperCellarModel" 7 10 1 := ⟨_, _, _, _, ko10, by decide, t1227⟩
theorem fp10_7 : FP "TemperCellarModel" 7 10 1 (.array .int) true := ⟨_, _, _, _, ko10, by decide, t1227, rfl, kto10 1 (by decide), fun _ => rfl⟩
theorem fl10_142 : FL "TemperCellarModel" 142 10 2 := ⟨_, _, _, _, ko10, by decide, t1228⟩
theorem fp10_142 : FP "TemperCellarModel" 142 10 2 .int false := ⟨_, _, _, _, ko10, by decide, t1228, rfl, kto10 2 (by decide), fun h => nomatch h⟩
theorem fl10_13 : FL "TemperCellarModel" 13 10 3 := ⟨_, _, _, _, ko10, by decide, t1229⟩
theorem fp10_13 : FP "TemperCellarModel" 13 10 3 (.array .int) true := ⟨_, _, _, _, ko10, by decide, t1229, rfl, kto10 3 (by decide), fun _ => rfl⟩
theorem fl10_16 : FL "TemperCellarModel" 16 10 4 := ⟨_, _, _, _, ko10, by decide, t1230⟩
theorem fp10_16 : FP "TemperCellarModel" 16 10 4 (.array .int) true := ⟨_, _, _, _, ko10, by decide, t1230, rfl, kto10 4 (by decide), fun _ => rfl⟩
theorem fl10_19 : FL "TemperCellarModel" 19 10 5 := ⟨_, _, _, _, ko10, by decide, t1231⟩
theorem fp10_19 : FP "TemperCellarModel" 19 10 5 (.array .int) true := ⟨_, _, _, _, ko10, by decide, t1231, rfl, kto10 5 (by decide), fun _ => rfl⟩
theorem fl10_22 : FL "TemperCellarModel" 22 10 6 := ⟨_, _, _, _, ko10, by decide, t1232⟩
theorem fp10_22 : FP "TemperCellarModel" 22 10 6 (.array .int) true := ⟨_, _, _, _, ko10, by decide, t1232, rfl, kto10 6 (by decide), fun _ => rfl⟩
theorem fl10_25 : FL "TemperCellarModel" 25 10 7 := ⟨_, _, _, _, ko10, by decide, t1233⟩
theorem fp10_25 : FP "TemperCellarModel" 25 10 7 (.array .int) true := ⟨_, _, _, _, ko10, by decide, t1233, rfl, kto10 7 (by decide), fun _ => rfl⟩
theorem fl10_28 : FL "TemperCellarModel" 28 10 8 := ⟨_, _, _, _, ko10, by decide, t1234⟩
theorem fp10_28 : FP "TemperCellarModel" 28 10 8 (.array .int) true := ⟨_, _, _, _, ko10, by decide, t1234, rfl, kto10 8 (by decide), fun _ => rfl⟩
theorem fl10_31 : FL "TemperCellarModel" 31 10 9 := ⟨_, _, _, _, ko10, by decide, t1235⟩
theorem fp10_31 : FP "TemperCellarModel" 31 10 9 (.array .int) true := ⟨_, _, _, _, ko10, by decide, t1235, rfl, kto10 9 (by decide), fun _ => rfl⟩
theorem fl10_34 : FL "TemperCellarModel" 34 10 10 := ⟨_, _, _, _, ko10, by decide, t1236⟩
theorem fp10_34 : FP "TemperCellarModel" 34 10 10 (.array .int) true := ⟨_, _, _, _, ko10, by decide, t1236, rfl, kto10 10 (by decide), fun _ => rfl⟩
theorem fl10_37 : FL "TemperCellarModel" 37 10 11 := ⟨_, _, _, _, ko10, by decide, t1237⟩
theorem fp10_37 : FP "TemperCellarModel" 37 10 11 (.array .int) true := ⟨_, _, _, _, ko10, by decide, t1237, rfl, kto10 11 (by decide), fun _ => rfl⟩
theorem fl10_40 : FL "TemperCellarModel" 40 10 12 := ⟨_, _, _, _, ko10, by decide, t1238⟩
theorem fp10_40 : FP "TemperCellarModel" 40 10 12 (.array .int) true := ⟨_, _, _, _, ko10, by decide, t1238, rfl, kto10 12 (by decide), fun _ => rfl⟩
theorem fl10_43 : FL "TemperCellarModel" 43 10 13 := ⟨_, _, _, _, ko10, by decide, t1239⟩
theorem fp10_43 : FP "TemperCellarModel" 43 10 13 (.array .int) true := ⟨_, _, _, _, ko10, by decide, t1239, rfl, kto10 13 (by decide), fun _ => rfl⟩
theorem fl10_46 : FL "TemperCellarModel" 46 10 14 := ⟨_, _, _, _, ko10, by decide, t1240⟩
theorem fp10_46 : FP "TemperCellarModel" 46 10 14 (.array .int) true := ⟨_, _, _, _, ko10, by decide, t1240, rfl, kto10 14 (by decide), fun _ => rfl⟩
theorem fl10_49 : FL "TemperCellarModel" 49 10 15 := ⟨_, _, _, _, ko10, by decide, t1241⟩
theorem fp10_49 : FP "TemperCellarModel" 49 10 15 (.array .int) true := ⟨_, _, _, _, ko10, by decide, t1241, rfl, kto10 15 (by decide), fun _ => rfl⟩
theorem fl10_52 : FL "TemperCellarModel" 52 10 16 := ⟨_, _, _, _, ko10, by decide, t1242⟩
theorem fp10_52 : FP "TemperCellarModel" 52 10 16 (.array .int) true := ⟨_, _, _, _, ko10, by decide, t1242, rfl, kto10 16 (by decide), fun _ => rfl⟩
theorem fl10_55 : FL "TemperCellarModel" 55 10 17 := ⟨_, _, _, _, ko10, by decide, t1243⟩
theorem fp10_55 : FP "TemperCellarModel" 55 10 17 (.array .int) true := ⟨_, _, _, _, ko10, by decide, t1243, rfl, kto10 17 (by decide), fun _ => rfl⟩
theorem fl10_58 : FL "TemperCellarModel" 58 10 18 := ⟨_, _, _, _, ko10, by decide, t1244⟩
theorem fp10_58 : FP "TemperCellarModel" 58 10 18 (.array .int) true := ⟨_, _, _, _, ko10, by decide, t1244, rfl, kto10 18 (by decide), fun _ => rfl⟩
theorem fl10_61 : FL "TemperCellarModel" 61 10 19 := ⟨_, _, _, _, ko10, by decide, t1245⟩
theorem fp10_61 : FP "TemperCellarModel" 61 10 19 (.array .int) true := ⟨_, _, _, _, ko10, by decide, t1245, rfl, kto10 19 (by decide), fun _ => rfl⟩
theorem fl10_222 : FL "TemperCellarModel" 222 10 20 := ⟨_, _, _, _, ko10, by decide, t1246⟩
theorem fp10_222 : FP "TemperCellarModel" 222 10 20 .int false := ⟨_, _, _, _, ko10, by decide, t1246, rfl, kto10 20 (by decide), fun h => nomatch h⟩
theorem fl10_249 : FL "TemperCellarModel" 249 10 21 := ⟨_, _, _, _, ko10, by decide, t1247⟩
theorem fp10_249 : FP "TemperCellarModel" 249 10 21 .int false := ⟨_, _, _, _, ko10, by decide, t1247, rfl, kto10 21 (by decide), fun h => nomatch h⟩
theorem fl10_148 : FL "TemperCellarModel" 148 10 22 := ⟨_, _, _, _, ko10, by decide, t1248⟩
theorem fp10_148 : FP "TemperCellarModel" 148 10 22 .int false := ⟨_, _, _, _, ko10, by decide, t1248, rfl, kto10 22 (by decide), fun h => nomatch h⟩
theorem fl10_145 : FL "TemperCellarModel" 145 10 23 := ⟨_, _, _, _, ko10, by decide, t1249⟩
theorem fp10_145 : FP "TemperCellarModel" 145 10 23 .int false := ⟨_, _, _, _, ko10, by decide, t1249, rfl, kto10 23 (by decide), fun h => nomatch h⟩
theorem fl10_155 : FL "TemperCellarModel" 155 10 24 := ⟨_, _, _, _, ko10, by decide, t1250⟩
theorem fp10_155 : FP "TemperCellarModel" 155 10 24 .int false := ⟨_, _, _, _, ko10, by decide, t1250, rfl, kto10 24 (by decide), fun h => nomatch h⟩
theorem fl10_158 : FL "TemperCellarModel" 158 10 25 := ⟨_, _, _, _, ko10, by decide, t1251⟩
theorem fp10_158 : FP "TemperCellarModel" 158 10 25 .int false := ⟨_, _, _, _, ko10, by decide, t1251, rfl, kto10 25 (by decide), fun h => nomatch h⟩
theorem fl10_168 : FL "TemperCellarModel" 168 10 26 := ⟨_, _, _, _, ko10, by decide, t1252⟩
theorem fp10_168 : FP "TemperCellarModel" 168 10 26 .int false := ⟨_, _, _, _, ko10, by decide, t1252, rfl, kto10 26 (by decide), fun h => nomatch h⟩
theorem fl10_193 : FL "TemperCellarModel" 193 10 27 := ⟨_, _, _, _, ko10, by decide, t1253⟩
theorem fp10_193 : FP "TemperCellarModel" 193 10 27 .int false := ⟨_, _, _, _, ko10, by decide, t1253, rfl, kto10 27 (by decide), fun h => nomatch h⟩
theorem fl10_196 : FL "TemperCellarModel" 196 10 28 := ⟨_, _, _, _, ko10, by decide, t1254⟩
theorem fp10_196 : FP "TemperCellarModel" 196 10 28 .int false := ⟨_, _, _, _, ko10, by decide, t1254, rfl, kto10 28 (by decide), fun h => nomatch h⟩
theorem fl10_288 : FL "TemperCellarModel" 288 10 29 := ⟨_, _, _, _, ko10, by decide, t1255⟩
theorem fp10_288 : FP "TemperCellarModel" 288 10 29 .int false := ⟨_, _, _, _, ko10, by decide, t1255, rfl, kto10 29 (by decide), fun h => nomatch h⟩
theorem fl10_64 : FL "TemperCellarModel" 64 10 30 := ⟨_, _, _, _, ko10, by decide, t1256⟩
theorem fp10_64 : FP "TemperCellarModel" 64 10 30 .int false := ⟨_, _, _, _, ko10, by decide, t1256, rfl, kto10 30 (by decide), fun h => nomatch h⟩
theorem fl10_282 : FL "TemperCellarModel" 282 10 31 := ⟨_, _, _, _, ko10, by decide, t1257⟩
theorem fp10_282 : FP "TemperCellarModel" 282 10 31 .int false := ⟨_, _, _, _, ko10, by decide, t1257, rfl, kto10 31 (by decide), fun h => nomatch h⟩
theorem fl10_255 : FL "TemperCellarModel" 255 10 32 := ⟨_, _, _, _, ko10, by decide, t1258⟩
theorem fp10_255 : FP "TemperCellarModel" 255 10 32 .int false := ⟨_, _, _, _, ko10, by decide, t1258, rfl, kto10 32 (by decide), fun h => nomatch h⟩
theorem fl10_68 : FL "TemperCellarModel" 68 10 33 := ⟨_, _, _, _, ko10, by decide, t1259⟩
theorem fp10_68 : FP "TemperCellarModel" 68 10 33 (.array .long) true := ⟨_, _, _, _, ko10, by decide, t1259, rfl, kto10 33 (by decide), fun _ => rfl⟩
theorem fl10_72 : FL "TemperCellarModel" 72 10 34 := ⟨_, _, _, _, ko10, by decide, t1260⟩
theorem fp10_72 : FP "TemperCellarModel" 72 10 34 (.array .long) true := ⟨_, _, _, _, ko10, by decide, t1260, rfl, kto10 34 (by decide), fun _ => rfl⟩
theorem fl10_305 : FL "TemperCellarModel" 305 10 35 := ⟨_, _, _, _, ko10, by decide, t1261⟩
theorem fp10_305 : FP "TemperCellarModel" 305 10 35 .int false := ⟨_, _, _, _, ko10, by decide, t1261, rfl, kto10 35 (by decide), fun h => nomatch h⟩
theorem fl10_75 : FL "TemperCellarModel" 75 10 36 := ⟨_, _, _, _, ko10, by decide, t1262⟩
theorem fp10_75 : FP "TemperCellarModel" 75 10 36 (.array .int) true := ⟨_, _, _, _, ko10, by decide, t1262, rfl, kto10 36 (by decide), fun _ => rfl⟩
theorem fl10_78 : FL "TemperCellarModel" 78 10 37 := ⟨_, _, _, _, ko10, by decide, t1263⟩
theorem fp10_78 : FP "TemperCellarModel" 78 10 37 (.array .int) true := ⟨_, _, _, _, ko10, by decide, t1263, rfl, kto10 37 (by decide), fun _ => rfl⟩
theorem fl10_81 : FL "TemperCellarModel" 81 10 38 := ⟨_, _, _, _, ko10, by decide, t1264⟩
theorem fp10_81 : FP "TemperCellarModel" 81 10 38 (.array .int) true := ⟨_, _, _, _, ko10, by decide, t1264, rfl, kto10 38 (by decide), fun _ => rfl⟩
theorem fl10_84 : FL "TemperCellarModel" 84 10 39 := ⟨_, _, _, _, ko10, by decide, t1265⟩
theorem fp10_84 : FP "TemperCellarModel" 84 10 39 (.array .int) true := ⟨_, _, _, _, ko10, by decide, t1265, rfl, kto10 39 (by decide), fun _ => rfl⟩
theorem fl10_87 : FL "TemperCellarModel" 87 10 40 := ⟨_, _, _, _, ko10, by decide, t1266⟩
theorem fp10_87 : FP "TemperCellarModel" 87 10 40 (.array .int) true := ⟨_, _, _, _, ko10, by decide, t1266, rfl, kto10 40 (by decide), fun _ => rfl⟩
theorem fl10_90 : FL "TemperCellarModel" 90 10 41 := ⟨_, _, _, _, ko10, by decide, t1267⟩
theorem fp10_90 : FP "TemperCellarModel" 90 10 41 (.array .int) true := ⟨_, _, _, _, ko10, by decide, t1267, rfl, kto10 41 (by decide), fun _ => rfl⟩
theorem fl10_93 : FL "TemperCellarModel" 93 10 42 := ⟨_, _, _, _, ko10, by decide, t1268⟩
theorem fp10_93 : FP "TemperCellarModel" 93 10 42 (.array .int) true := ⟨_, _, _, _, ko10, by decide, t1268, rfl, kto10 42 (by decide), fun _ => rfl⟩
theorem fl10_96 : FL "TemperCellarModel" 96 10 43 := ⟨_, _, _, _, ko10, by decide, t1269⟩
theorem fp10_96 : FP "TemperCellarModel" 96 10 43 (.array .int) true := ⟨_, _, _, _, ko10, by decide, t1269, rfl, kto10 43 (by decide), fun _ => rfl⟩
theorem fl10_99 : FL "TemperCellarModel" 99 10 44 := ⟨_, _, _, _, ko10, by decide, t1270⟩
theorem fp10_99 : FP "TemperCellarModel" 99 10 44 (.array .int) true := ⟨_, _, _, _, ko10, by decide, t1270, rfl, kto10 44 (by decide), fun _ => rfl⟩
theorem fl10_102 : FL "TemperCellarModel" 102 10 45 := ⟨_, _, _, _, ko10, by decide, t1271⟩
theorem fp10_102 : FP "TemperCellarModel" 102 10 45 (.array .int) true := ⟨_, _, _, _, ko10, by decide, t1271, rfl, kto10 45 (by decide), fun _ => rfl⟩
theorem fl10_298 : FL "TemperCellarModel" 298 10 46 := ⟨_, _, _, _, ko10, by decide, t1272⟩
theorem fp10_298 : FP "TemperCellarModel" 298 10 46 .boolean false := ⟨_, _, _, _, ko10, by decide, t1272, rfl, kto10 46 (by decide), fun h => nomatch h⟩
theorem fl10_302 : FL "TemperCellarModel" 302 10 47 := ⟨_, _, _, _, ko10, by decide, t1273⟩
theorem fp10_302 : FP "TemperCellarModel" 302 10 47 .int false := ⟨_, _, _, _, ko10, by decide, t1273, rfl, kto10 47 (by decide), fun h => nomatch h⟩
theorem fl10_356 : FL "TemperCellarModel" 356 10 48 := ⟨_, _, _, _, ko10, by decide, t1274⟩
theorem fp10_356 : FP "TemperCellarModel" 356 10 48 .int false := ⟨_, _, _, _, ko10, by decide, t1274, rfl, kto10 48 (by decide), fun h => nomatch h⟩
theorem fl10_105 : FL "TemperCellarModel" 105 10 49 := ⟨_, _, _, _, ko10, by decide, t1275⟩
theorem fp10_105 : FP "TemperCellarModel" 105 10 49 (.array .int) true := ⟨_, _, _, _, ko10, by decide, t1275, rfl, kto10 49 (by decide), fun _ => rfl⟩
theorem fl10_108 : FL "TemperCellarModel" 108 10 50 := ⟨_, _, _, _, ko10, by decide, t1276⟩
theorem fp10_108 : FP "TemperCellarModel" 108 10 50 (.array .int) true := ⟨_, _, _, _, ko10, by decide, t1276, rfl, kto10 50 (by decide), fun _ => rfl⟩
theorem fl10_444 : FL "TemperCellarModel" 444 10 51 := ⟨_, _, _, _, ko10, by decide, t1277⟩
theorem fp10_444 : FP "TemperCellarModel" 444 10 51 .int false := ⟨_, _, _, _, ko10, by decide, t1277, rfl, kto10 51 (by decide), fun h => nomatch h⟩
theorem fl10_447 : FL "TemperCellarModel" 447 10 52 := ⟨_, _, _, _, ko10, by decide, t1278⟩
theorem fp10_447 : FP "TemperCellarModel" 447 10 52 .int false := ⟨_, _, _, _, ko10, by decide, t1278, rfl, kto10 52 (by decide), fun h => nomatch h⟩
theorem fl10_450 : FL "TemperCellarModel" 450 10 53 := ⟨_, _, _, _, ko10, by decide, t1279⟩
theorem fp10_450 : FP "TemperCellarModel" 450 10 53 .int false := ⟨_, _, _, _, ko10, by decide, t1279, rfl, kto10 53 (by decide), fun h => nomatch h⟩
theorem fl10_111 : FL "TemperCellarModel" 111 10 54 := ⟨_, _, _, _, ko10, by decide, t1280⟩
theorem fp10_111 : FP "TemperCellarModel" 111 10 54 (.array .int) true := ⟨_, _, _, _, ko10, by decide, t1280, rfl, kto10 54 (by decide), fun _ => rfl⟩
theorem fl10_456 : FL "TemperCellarModel" 456 10 55 := ⟨_, _, _, _, ko10, by decide, t1281⟩
theorem fp10_456 : FP "TemperCellarModel" 456 10 55 .int false := ⟨_, _, _, _, ko10, by decide, t1281, rfl, kto10 55 (by decide), fun h => nomatch h⟩
theorem fl10_114 : FL "TemperCellarModel" 114 10 56 := ⟨_, _, _, _, ko10, by decide, t1282⟩
theorem fp10_114 : FP "TemperCellarModel" 114 10 56 (.array .int) true := ⟨_, _, _, _, ko10, by decide, t1282, rfl, kto10 56 (by decide), fun _ => rfl⟩
theorem fl10_295 : FL "TemperCellarModel" 295 10 57 := ⟨_, _, _, _, ko10, by decide, t1283⟩
theorem fp10_295 : FP "TemperCellarModel" 295 10 57 .int false := ⟨_, _, _, _, ko10, by decide, t1283, rfl, kto10 57 (by decide), fun h => nomatch h⟩
theorem fl10_117 : FL "TemperCellarModel" 117 10 58 := ⟨_, _, _, _, ko10, by decide, t1284⟩
theorem fp10_117 : FP "TemperCellarModel" 117 10 58 .int false := ⟨_, _, _, _, ko10, by decide, t1284, rfl, kto10 58 (by decide), fun h => nomatch h⟩
theorem fl10_120 : FL "TemperCellarModel" 120 10 59 := ⟨_, _, _, _, ko10, by decide, t1285⟩
theorem fp10_120 : FP "TemperCellarModel" 120 10 59 (.array .int) true := ⟨_, _, _, _, ko10, by decide, t1285, rfl, kto10 59 (by decide), fun _ => rfl⟩
theorem fl10_123 : FL "TemperCellarModel" 123 10 60 := ⟨_, _, _, _, ko10, by decide, t1286⟩
theorem fp10_123 : FP "TemperCellarModel" 123 10 60 (.array .int) true := ⟨_, _, _, _, ko10, by decide, t1286, rfl, kto10 60 (by decide), fun _ => rfl⟩
theorem fl10_126 : FL "TemperCellarModel" 126 10 61 := ⟨_, _, _, _, ko10, by decide, t1287⟩
theorem fp10_126 : FP "TemperCellarModel" 126 10 61 (.array .boolean) true := ⟨_, _, _, _, ko10, by decide, t1287, rfl, kto10 61 (by decide), fun _ => rfl⟩
theorem fl10_130 : FL "TemperCellarModel" 130 10 62 := ⟨_, _, _, _, ko10, by decide, t1288⟩
theorem fp10_130 : FP "TemperCellarModel" 130 10 62 (.array .int) true := ⟨_, _, _, _, ko10, by decide, t1288, rfl, kto10 62 (by decide), fun _ => rfl⟩
theorem fl10_133 : FL "TemperCellarModel" 133 10 63 := ⟨_, _, _, _, ko10, by decide, t1289⟩
theorem fp10_133 : FP "TemperCellarModel" 133 10 63 (.array .boolean) true := ⟨_, _, _, _, ko10, by decide, t1289, rfl, kto10 63 (by decide), fun _ => rfl⟩
