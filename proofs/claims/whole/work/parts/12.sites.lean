/-! ===== words by their places; methods; what the code asks of the tables (printed by wip/whole/gen/sites.py) ===== -/
theorem tb_t1 {w : Cond} {j : Nat} (h : tables_1_1[j]? = some w) (g : goodWord w = true) : w ∈ tb := List.mem_filter.mpr ⟨List.mem_append_right _ (show w ∈ tables_1_1 ++ (tables_1_2 ++ (tables_1_3 ++ (tables_1_4 ++ tables_1_5))) from List.mem_append_left _ (List.mem_of_getElem? h)), g⟩
theorem tb_t2 {w : Cond} {j : Nat} (h : tables_1_2[j]? = some w) (g : goodWord w = true) : w ∈ tb := List.mem_filter.mpr ⟨List.mem_append_right _ (show w ∈ tables_1_1 ++ (tables_1_2 ++ (tables_1_3 ++ (tables_1_4 ++ tables_1_5))) from List.mem_append_right _ (List.mem_append_left _ (List.mem_of_getElem? h))), g⟩
theorem tb_t3 {w : Cond} {j : Nat} (h : tables_1_3[j]? = some w) (g : goodWord w = true) : w ∈ tb := List.mem_filter.mpr ⟨List.mem_append_right _ (show w ∈ tables_1_1 ++ (tables_1_2 ++ (tables_1_3 ++ (tables_1_4 ++ tables_1_5))) from List.mem_append_right _ (List.mem_append_right _ (List.mem_append_left _ (List.mem_of_getElem? h)))), g⟩
theorem tb_t4 {w : Cond} {j : Nat} (h : tables_1_4[j]? = some w) (g : goodWord w = true) : w ∈ tb := List.mem_filter.mpr ⟨List.mem_append_right _ (show w ∈ tables_1_1 ++ (tables_1_2 ++ (tables_1_3 ++ (tables_1_4 ++ tables_1_5))) from List.mem_append_right _ (List.mem_append_right _ (List.mem_append_right _ (List.mem_append_left _ (List.mem_of_getElem? h))))), g⟩
theorem tb_t5 {w : Cond} {j : Nat} (h : tables_1_5[j]? = some w) (g : goodWord w = true) : w ∈ tb := List.mem_filter.mpr ⟨List.mem_append_right _ (show w ∈ tables_1_1 ++ (tables_1_2 ++ (tables_1_3 ++ (tables_1_4 ++ tables_1_5))) from List.mem_append_right _ (List.mem_append_right _ (List.mem_append_right _ (List.mem_append_right _ (List.mem_of_getElem? h))))), g⟩
theorem w_0 : Cond.selects "SmallestSpeed" ⟨"SmallestSpeed", "refuseBad", "(I)I"⟩ ⟨"SmallestSpeed", "refuseBad", "(I)I"⟩ ∈ tb := tb_in 0 (by decide +kernel) rfl
theorem w_1 : Cond.selects "SmallestSpeed" ⟨"SmallestSpeed", "refuseFull", "()I"⟩ ⟨"SmallestSpeed", "refuseFull", "()I"⟩ ∈ tb := tb_in 1 (by decide +kernel) rfl
theorem w_2 : Cond.selects "SmallestSpeed" ⟨"SmallestSpeed", "isChild", "(I)Z"⟩ ⟨"SmallestSpeed", "isChild", "(I)Z"⟩ ∈ tb := tb_in 2 (by decide +kernel) rfl
theorem w_3 : Cond.selects "SmallestSpeed" ⟨"SmallestSpeed", "refuseNo", "()I"⟩ ⟨"SmallestSpeed", "refuseNo", "()I"⟩ ∈ tb := tb_in 3 (by decide +kernel) rfl
theorem w_4 : Cond.selects "SmallestSpeed" ⟨"SmallestSpeed", "keepFraction", "(II)V"⟩ ⟨"SmallestSpeed", "keepFraction", "(II)V"⟩ ∈ tb := tb_in 4 (by decide +kernel) rfl
theorem w_5 : Cond.selects "SmallestSpeed" ⟨"SmallestSpeed", "countOf", "(I)I"⟩ ⟨"SmallestSpeed", "countOf", "(I)I"⟩ ∈ tb := tb_in 5 (by decide +kernel) rfl
theorem w_6 : Cond.selects "SmallestSpeedModel" ⟨"SmallestSpeedModel", "bad", "(I)I"⟩ ⟨"SmallestSpeedModel", "bad", "(I)I"⟩ ∈ tb := tb_in 6 (by decide +kernel) rfl
theorem w_7 : Cond.selects "SmallestSpeedModel" ⟨"SmallestSpeedModel", "children", "()I"⟩ ⟨"SmallestSpeedModel", "children", "()I"⟩ ∈ tb := tb_in 7 (by decide +kernel) rfl
theorem w_8 : Cond.selects "SmallestSpeedModel" ⟨"SmallestSpeedModel", "full", "()I"⟩ ⟨"SmallestSpeedModel", "full", "()I"⟩ ∈ tb := tb_in 8 (by decide +kernel) rfl
theorem w_9 : Cond.selects "SmallestSpeedModel" ⟨"SmallestSpeedModel", "isChild", "(I)Z"⟩ ⟨"SmallestSpeedModel", "isChild", "(I)Z"⟩ ∈ tb := tb_in 9 (by decide +kernel) rfl
theorem w_10 : Cond.selects "SmallestSpeedModel" ⟨"SmallestSpeedModel", "tellAnew", "(III)I"⟩ ⟨"SmallestSpeedModel", "tellAnew", "(III)I"⟩ ∈ tb := tb_in 10 (by decide +kernel) rfl
theorem w_11 : Cond.selects "SmallestSpeedModel" ⟨"SmallestSpeedModel", "get", "(II)I"⟩ ⟨"SmallestSpeedModel", "get", "(II)I"⟩ ∈ tb := tb_in 11 (by decide +kernel) rfl
theorem w_12 : Cond.selects "SmallestSpeedModel" ⟨"SmallestSpeedModel", "keep", "()V"⟩ ⟨"SmallestSpeedModel", "keep", "()V"⟩ ∈ tb := tb_in 12 (by decide +kernel) rfl
theorem w_13 : Cond.selects "SmallestSpeedModel" ⟨"SmallestSpeedModel", "no", "()I"⟩ ⟨"SmallestSpeedModel", "no", "()I"⟩ ∈ tb := tb_in 13 (by decide +kernel) rfl
theorem w_14 : Cond.selects "SmallestSpeedModel" ⟨"SmallestSpeedModel", "all", "()I"⟩ ⟨"SmallestSpeedModel", "all", "()I"⟩ ∈ tb := tb_in 14 (by decide +kernel) rfl
theorem w_15 : Cond.selects "SmallestSpeedModel" ⟨"SmallestSpeedModel", "layHand", "(I)V"⟩ ⟨"SmallestSpeedModel", "layHand", "(I)V"⟩ ∈ tb := tb_in 15 (by decide +kernel) rfl
theorem w_16 : Cond.selects "SmallestSpeedModel" ⟨"SmallestSpeedModel", "cellOf", "(II)I"⟩ ⟨"SmallestSpeedModel", "cellOf", "(II)I"⟩ ∈ tb := tb_in 16 (by decide +kernel) rfl
theorem w_17 : Cond.selects "SmallestSpeedModel" ⟨"SmallestSpeedModel", "isOut", "(II)Z"⟩ ⟨"SmallestSpeedModel", "isOut", "(II)Z"⟩ ∈ tb := tb_in 17 (by decide +kernel) rfl
theorem w_18 : Cond.selects "SmallestSpeedModel" ⟨"SmallestSpeedModel", "countsOf", "(II)I"⟩ ⟨"SmallestSpeedModel", "countsOf", "(II)I"⟩ ∈ tb := tb_in 18 (by decide +kernel) rfl
theorem w_19 : Cond.selects "SmallestSpeedModel" ⟨"SmallestSpeedModel", "limitAt", "(II)I"⟩ ⟨"SmallestSpeedModel", "limitAt", "(II)I"⟩ ∈ tb := tb_in 19 (by decide +kernel) rfl
theorem w_20 : Cond.selects "SmallestSpeedModel" ⟨"SmallestSpeedModel", "nearest", "(III)I"⟩ ⟨"SmallestSpeedModel", "nearest", "(III)I"⟩ ∈ tb := tb_in 20 (by decide +kernel) rfl
theorem w_21 : Cond.selects "SmallestSpeedModel" ⟨"SmallestSpeedModel", "isSeen", "(III)Z"⟩ ⟨"SmallestSpeedModel", "isSeen", "(III)Z"⟩ ∈ tb := tb_in 21 (by decide +kernel) rfl
theorem w_22 : Cond.selects "SmallestSpeedModel" ⟨"SmallestSpeedModel", "lowest", "(II)I"⟩ ⟨"SmallestSpeedModel", "lowest", "(II)I"⟩ ∈ tb := tb_in 22 (by decide +kernel) rfl
theorem w_23 : Cond.selects "SmallestSpeedModel" ⟨"SmallestSpeedModel", "whereAt", "(II)I"⟩ ⟨"SmallestSpeedModel", "whereAt", "(II)I"⟩ ∈ tb := tb_in 23 (by decide +kernel) rfl
theorem w_24 : Cond.selects "SmallestSpeedModel" ⟨"SmallestSpeedModel", "thereFrom", "(I)I"⟩ ⟨"SmallestSpeedModel", "thereFrom", "(I)I"⟩ ∈ tb := tb_in 24 (by decide +kernel) rfl
theorem w_25 : Cond.selects "SmallestSpeedModel" ⟨"SmallestSpeedModel", "soonestFrom", "(I)I"⟩ ⟨"SmallestSpeedModel", "soonestFrom", "(I)I"⟩ ∈ tb := tb_in 25 (by decide +kernel) rfl
theorem w_26 : Cond.selects "SmallestSpeedModel" ⟨"SmallestSpeedModel", "goOn", "(I)V"⟩ ⟨"SmallestSpeedModel", "goOn", "(I)V"⟩ ∈ tb := tb_in 26 (by decide +kernel) rfl
theorem w_27 : Cond.selects "SmallestSpeedModel" ⟨"SmallestSpeedModel", "pastIn", "(III)I"⟩ ⟨"SmallestSpeedModel", "pastIn", "(III)I"⟩ ∈ tb := tb_in 27 (by decide +kernel) rfl
theorem w_28 : Cond.selects "SmallestSpeedModel" ⟨"SmallestSpeedModel", "layGets", "(I)V"⟩ ⟨"SmallestSpeedModel", "layGets", "(I)V"⟩ ∈ tb := tb_in 28 (by decide +kernel) rfl
theorem w_29 : Cond.selects "SmallestSpeedModel" ⟨"SmallestSpeedModel", "rests", "(II)Z"⟩ ⟨"SmallestSpeedModel", "rests", "(II)Z"⟩ ∈ tb := tb_in 29 (by decide +kernel) rfl
theorem w_30 : Cond.selects "SmallestSpeedModel" ⟨"SmallestSpeedModel", "areSo", "()Z"⟩ ⟨"SmallestSpeedModel", "areSo", "()Z"⟩ ∈ tb := tb_in 30 (by decide +kernel) rfl
theorem w_31 : Cond.selects "SmallestSpeedModel" ⟨"SmallestSpeedModel", "mostLike", "(II)I"⟩ ⟨"SmallestSpeedModel", "mostLike", "(II)I"⟩ ∈ tb := tb_in 31 (by decide +kernel) rfl
theorem w_32 : Cond.selects "SmallestSpeedModel" ⟨"SmallestSpeedModel", "fraction", "(II)V"⟩ ⟨"SmallestSpeedModel", "fraction", "(II)V"⟩ ∈ tb := tb_in 32 (by decide +kernel) rfl
theorem w_33 : Cond.selects "SmallestSpeedModel" ⟨"SmallestSpeedModel", "lookAt", "(I)V"⟩ ⟨"SmallestSpeedModel", "lookAt", "(I)V"⟩ ∈ tb := tb_in 33 (by decide +kernel) rfl
theorem w_34 : Cond.selects "SmallestSpeedModel" ⟨"SmallestSpeedModel", "takesFirst", "()Z"⟩ ⟨"SmallestSpeedModel", "takesFirst", "()Z"⟩ ∈ tb := tb_in 34 (by decide +kernel) rfl
theorem w_35 : Cond.selects "SmallestSpeedModel" ⟨"SmallestSpeedModel", "isCalled", "(IIIIII)Z"⟩ ⟨"SmallestSpeedModel", "isCalled", "(IIIIII)Z"⟩ ∈ tb := tb_in 35 (by decide +kernel) rfl
theorem w_36 : Cond.selects "SmallestSpeedModel" ⟨"SmallestSpeedModel", "goBehind", "()V"⟩ ⟨"SmallestSpeedModel", "goBehind", "()V"⟩ ∈ tb := tb_in 36 (by decide +kernel) rfl
theorem w_37 : Cond.selects "SmallestSpeedModel" ⟨"SmallestSpeedModel", "takes", "(III)Z"⟩ ⟨"SmallestSpeedModel", "takes", "(III)Z"⟩ ∈ tb := tb_in 37 (by decide +kernel) rfl
theorem w_38 : Cond.selects "SmallestSpeedModel" ⟨"SmallestSpeedModel", "takesChild", "()Z"⟩ ⟨"SmallestSpeedModel", "takesChild", "()Z"⟩ ∈ tb := tb_in 38 (by decide +kernel) rfl
theorem w_39 : Cond.selects "SmallestSpeedModel" ⟨"SmallestSpeedModel", "counted", "(I)I"⟩ ⟨"SmallestSpeedModel", "counted", "(I)I"⟩ ∈ tb := tb_in 39 (by decide +kernel) rfl
theorem w_40 : Cond.selects "SmallestSpeedModel" ⟨"SmallestSpeedModel", "sums", "(JII)J"⟩ ⟨"SmallestSpeedModel", "sums", "(JII)J"⟩ ∈ tb := tb_in 40 (by decide +kernel) rfl
theorem w_42 : Cond.initialized "SmallestSpeed" ∈ tb := tb_t1 (show tables_1_1[1]? = some _ from rfl) rfl
theorem w_43 : Cond.initialized "SmallestSpeed$Road" ∈ tb := tb_t1 (show tables_1_1[2]? = some _ from rfl) rfl
theorem w_44 : Cond.initialized "SmallestSpeed$RoadText" ∈ tb := tb_t1 (show tables_1_1[3]? = some _ from rfl) rfl
theorem w_45 : Cond.initialized "SmallestSpeed$Limits" ∈ tb := tb_t1 (show tables_1_1[4]? = some _ from rfl) rfl
theorem w_46 : Cond.initialized "SmallestSpeed$Walker" ∈ tb := tb_t1 (show tables_1_1[5]? = some _ from rfl) rfl
theorem w_47 : Cond.initialized "SmallestSpeed$Held" ∈ tb := tb_t1 (show tables_1_1[6]? = some _ from rfl) rfl
theorem w_48 : Cond.initialized "SmallestSpeed$Player" ∈ tb := tb_t1 (show tables_1_1[7]? = some _ from rfl) rfl
theorem w_49 : Cond.initialized "SmallestSpeed$Twin" ∈ tb := tb_t1 (show tables_1_1[8]? = some _ from rfl) rfl
theorem w_50 : Cond.initialized "SmallestSpeed$Grows" ∈ tb := tb_t1 (show tables_1_1[9]? = some _ from rfl) rfl
theorem w_51 : Cond.initialized "SmallestSpeed$Doll" ∈ tb := tb_t1 (show tables_1_1[10]? = some _ from rfl) rfl
theorem w_52 : Cond.initialized "SmallestSpeed$Drives" ∈ tb := tb_t1 (show tables_1_1[11]? = some _ from rfl) rfl
theorem w_53 : Cond.initialized "SmallestSpeed$Sightings" ∈ tb := tb_t1 (show tables_1_1[12]? = some _ from rfl) rfl
theorem w_54 : Cond.initialized "SmallestSpeedModel" ∈ tb := tb_t1 (show tables_1_1[13]? = some _ from rfl) rfl
theorem w_55 : Cond.initialized "java/lang/System" ∈ tb := tb_t1 (show tables_1_1[14]? = some _ from rfl) rfl
theorem w_56 : Cond.initialized "java/lang/String" ∈ tb := tb_t1 (show tables_1_1[15]? = some _ from rfl) rfl
theorem w_57 : Cond.initialized "java/lang/StringLatin1" ∈ tb := tb_t1 (show tables_1_1[16]? = some _ from rfl) rfl
theorem w_60 : Cond.initialized "java/lang/Math" ∈ tb := tb_t1 (show tables_1_1[19]? = some _ from rfl) rfl
theorem w_61 : Cond.initialized "java/lang/Integer" ∈ tb := tb_t1 (show tables_1_1[20]? = some _ from rfl) rfl
theorem w_62 : Cond.initialized "java/lang/Long" ∈ tb := tb_t1 (show tables_1_1[21]? = some _ from rfl) rfl
theorem w_63 : Cond.classLink "SmallestSpeedLaw" (7 : Nat) "SmallestSpeed" ∈ tb := tb_t1 (show tables_1_1[22]? = some _ from rfl) rfl
theorem w_64 : Cond.instantiable "SmallestSpeed" (15 : Nat) ∈ tb := tb_t1 (show tables_1_1[23]? = some _ from rfl) rfl
theorem w_65 : Cond.methodLink "SmallestSpeedLaw" (9 : Nat) ({ cls := "SmallestSpeed", name := "<init>", desc := "()V" } : Jvm.MethodName) ∈ tb := tb_t1 (show tables_1_1[24]? = some _ from rfl) rfl
theorem w_66 : Cond.instanceMethod ({ cls := "SmallestSpeed", name := "<init>", desc := "()V" } : Jvm.MethodName) ∈ tb := tb_t1 (show tables_1_1[25]? = some _ from rfl) rfl
theorem w_67 : Cond.code ({ cls := "SmallestSpeed", name := "<init>", desc := "()V" } : Jvm.MethodName) prog_1_method_1_code (1 : Nat) none ∈ tb := tb_t1 (show tables_1_1[26]? = some _ from rfl) rfl
theorem w_68 : Cond.methodLink "SmallestSpeed" (1 : Nat) ({ cls := "java/lang/Object", name := "<init>", desc := "()V" } : Jvm.MethodName) ∈ tb := tb_t1 (show tables_1_1[27]? = some _ from rfl) rfl
theorem w_69 : Cond.instanceMethod ({ cls := "java/lang/Object", name := "<init>", desc := "()V" } : Jvm.MethodName) ∈ tb := tb_t1 (show tables_1_1[28]? = some _ from rfl) rfl
theorem w_70 : Cond.code ({ cls := "java/lang/Object", name := "<init>", desc := "()V" } : Jvm.MethodName) object_method_1_code (1 : Nat) none ∈ tb := tb_t1 (show tables_1_1[29]? = some _ from rfl) rfl
theorem w_71 : Cond.classLink "SmallestSpeed" (7 : Nat) "SmallestSpeed$Road" ∈ tb := tb_t1 (show tables_1_1[30]? = some _ from rfl) rfl
theorem w_72 : Cond.instantiable "SmallestSpeed$Road" (18 : Nat) ∈ tb := tb_t1 (show tables_1_1[31]? = some _ from rfl) rfl
theorem w_74 : Cond.instanceMethod ({ cls := "SmallestSpeed$Road", name := "<init>", desc := "()V" } : Jvm.MethodName) ∈ tb := tb_t1 (show tables_1_1[33]? = some _ from rfl) rfl
theorem w_75 : Cond.code ({ cls := "SmallestSpeed$Road", name := "<init>", desc := "()V" } : Jvm.MethodName) prog_8_method_1_code (1 : Nat) none ∈ tb := tb_t1 (show tables_1_1[34]? = some _ from rfl) rfl
theorem w_76 : Cond.methodLink "SmallestSpeed$Road" (3 : Nat) ({ cls := "java/lang/Object", name := "<init>", desc := "()V" } : Jvm.MethodName) ∈ tb := tb_t1 (show tables_1_1[35]? = some _ from rfl) rfl
theorem w_77 : Cond.fieldLink "SmallestSpeed$Road" (9 : Nat) "SmallestSpeed$Road" "sight" "I" ∈ tb := tb_t1 (show tables_1_1[36]? = some _ from rfl) rfl
theorem w_78 : Cond.fieldLink "SmallestSpeed" (75 : Nat) "SmallestSpeed$Road" "sight" "I" ∈ tb := tb_t1 (show tables_1_1[37]? = some _ from rfl) rfl
theorem w_79 : Cond.fieldLink "SmallestSpeed$Limits" (120 : Nat) "SmallestSpeed$Road" "sight" "I" ∈ tb := tb_t1 (show tables_1_1[38]? = some _ from rfl) rfl
theorem w_80 : Cond.fieldLink "SmallestSpeed$Road" (53 : Nat) "SmallestSpeed$Road" "law" "I" ∈ tb := tb_t1 (show tables_1_1[39]? = some _ from rfl) rfl
theorem w_81 : Cond.fieldLink "SmallestSpeed" (72 : Nat) "SmallestSpeed$Road" "law" "I" ∈ tb := tb_t1 (show tables_1_1[40]? = some _ from rfl) rfl
theorem w_82 : Cond.fieldLink "SmallestSpeed$Limits" (88 : Nat) "SmallestSpeed$Road" "law" "I" ∈ tb := tb_t1 (show tables_1_1[41]? = some _ from rfl) rfl
theorem w_83 : Cond.fieldLink "SmallestSpeed$Road" (56 : Nat) "SmallestSpeed$Road" "children" "I" ∈ tb := tb_t1 (show tables_1_1[42]? = some _ from rfl) rfl
theorem w_84 : Cond.fieldLink "SmallestSpeed" (65 : Nat) "SmallestSpeed$Road" "children" "I" ∈ tb := tb_t1 (show tables_1_1[43]? = some _ from rfl) rfl
theorem w_85 : Cond.fieldLink "SmallestSpeed$Limits" (55 : Nat) "SmallestSpeed$Road" "children" "I" ∈ tb := tb_t1 (show tables_1_1[44]? = some _ from rfl) rfl
theorem w_86 : Cond.fieldLink "SmallestSpeed$Sightings" (69 : Nat) "SmallestSpeed$Road" "children" "I" ∈ tb := tb_t1 (show tables_1_1[45]? = some _ from rfl) rfl
theorem w_87 : Cond.fieldLink "SmallestSpeed$Drives" (67 : Nat) "SmallestSpeed$Road" "children" "I" ∈ tb := tb_t1 (show tables_1_1[46]? = some _ from rfl) rfl
theorem w_88 : Cond.fieldLink "SmallestSpeed$Road" (15 : Nat) "SmallestSpeed$Road" "kind" "[I" ∈ tb := tb_t1 (show tables_1_1[47]? = some _ from rfl) rfl
theorem w_89 : Cond.fieldLink "SmallestSpeed$Limits" (61 : Nat) "SmallestSpeed$Road" "kind" "[I" ∈ tb := tb_t1 (show tables_1_1[48]? = some _ from rfl) rfl
theorem w_90 : Cond.fieldLink "SmallestSpeed$Sightings" (72 : Nat) "SmallestSpeed$Road" "kind" "[I" ∈ tb := tb_t1 (show tables_1_1[49]? = some _ from rfl) rfl
theorem w_91 : Cond.fieldLink "SmallestSpeed" (135 : Nat) "SmallestSpeed$Road" "kind" "[I" ∈ tb := tb_t1 (show tables_1_1[50]? = some _ from rfl) rfl
theorem w_92 : Cond.fieldLink "SmallestSpeed$Road" (19 : Nat) "SmallestSpeed$Road" "height" "[I" ∈ tb := tb_t1 (show tables_1_1[51]? = some _ from rfl) rfl
theorem w_93 : Cond.fieldLink "SmallestSpeed$Limits" (81 : Nat) "SmallestSpeed$Road" "height" "[I" ∈ tb := tb_t1 (show tables_1_1[52]? = some _ from rfl) rfl
theorem w_94 : Cond.fieldLink "SmallestSpeed" (138 : Nat) "SmallestSpeed$Road" "height" "[I" ∈ tb := tb_t1 (show tables_1_1[53]? = some _ from rfl) rfl
theorem w_95 : Cond.fieldLink "SmallestSpeed$Road" (22 : Nat) "SmallestSpeed$Road" "cell" "[I" ∈ tb := tb_t1 (show tables_1_1[54]? = some _ from rfl) rfl
theorem w_96 : Cond.fieldLink "SmallestSpeed$Limits" (68 : Nat) "SmallestSpeed$Road" "cell" "[I" ∈ tb := tb_t1 (show tables_1_1[55]? = some _ from rfl) rfl
theorem w_97 : Cond.fieldLink "SmallestSpeed" (93 : Nat) "SmallestSpeed$Road" "cell" "[I" ∈ tb := tb_t1 (show tables_1_1[56]? = some _ from rfl) rfl
theorem w_98 : Cond.fieldLink "SmallestSpeed$Drives" (70 : Nat) "SmallestSpeed$Road" "cell" "[I" ∈ tb := tb_t1 (show tables_1_1[57]? = some _ from rfl) rfl
theorem w_99 : Cond.fieldLink "SmallestSpeed$Road" (25 : Nat) "SmallestSpeed$Road" "steps" "[I" ∈ tb := tb_t1 (show tables_1_1[58]? = some _ from rfl) rfl
theorem w_100 : Cond.fieldLink "SmallestSpeed$Limits" (71 : Nat) "SmallestSpeed$Road" "steps" "[I" ∈ tb := tb_t1 (show tables_1_1[59]? = some _ from rfl) rfl
theorem w_101 : Cond.fieldLink "SmallestSpeed" (147 : Nat) "SmallestSpeed$Road" "steps" "[I" ∈ tb := tb_t1 (show tables_1_1[60]? = some _ from rfl) rfl
theorem w_102 : Cond.fieldLink "SmallestSpeed$Road" (28 : Nat) "SmallestSpeed$Road" "bed" "[I" ∈ tb := tb_t1 (show tables_1_1[61]? = some _ from rfl) rfl
theorem w_103 : Cond.fieldLink "SmallestSpeed$Limits" (78 : Nat) "SmallestSpeed$Road" "bed" "[I" ∈ tb := tb_t1 (show tables_1_1[62]? = some _ from rfl) rfl
theorem w_104 : Cond.fieldLink "SmallestSpeed" (101 : Nat) "SmallestSpeed$Road" "bed" "[I" ∈ tb := tb_t1 (show tables_1_1[63]? = some _ from rfl) rfl
theorem w_105 : Cond.fieldLink "SmallestSpeed$Road" (59 : Nat) "SmallestSpeed$Road" "speeds" "I" ∈ tb := tb_t1 (show tables_1_1[64]? = some _ from rfl) rfl
theorem w_106 : Cond.fieldLink "SmallestSpeed$Drives" (48 : Nat) "SmallestSpeed$Road" "speeds" "I" ∈ tb := tb_t1 (show tables_1_1[65]? = some _ from rfl) rfl
theorem w_107 : Cond.fieldLink "SmallestSpeed" (179 : Nat) "SmallestSpeed$Road" "speeds" "I" ∈ tb := tb_t1 (show tables_1_1[66]? = some _ from rfl) rfl
theorem w_108 : Cond.fieldLink "SmallestSpeed$Road" (31 : Nat) "SmallestSpeed$Road" "speed" "[I" ∈ tb := tb_t1 (show tables_1_1[67]? = some _ from rfl) rfl
theorem w_109 : Cond.fieldLink "SmallestSpeed$Drives" (52 : Nat) "SmallestSpeed$Road" "speed" "[I" ∈ tb := tb_t1 (show tables_1_1[68]? = some _ from rfl) rfl
theorem w_110 : Cond.fieldLink "SmallestSpeed$Sightings" (22 : Nat) "SmallestSpeed$Road" "readings" "I" ∈ tb := tb_t1 (show tables_1_1[69]? = some _ from rfl) rfl
theorem w_111 : Cond.fieldLink "SmallestSpeed$Road" (62 : Nat) "SmallestSpeed$Road" "readings" "I" ∈ tb := tb_t1 (show tables_1_1[70]? = some _ from rfl) rfl
theorem w_112 : Cond.fieldLink "SmallestSpeed" (197 : Nat) "SmallestSpeed$Road" "readings" "I" ∈ tb := tb_t1 (show tables_1_1[71]? = some _ from rfl) rfl
theorem w_113 : Cond.fieldLink "SmallestSpeed$Road" (34 : Nat) "SmallestSpeed$Road" "readCell" "[I" ∈ tb := tb_t1 (show tables_1_1[72]? = some _ from rfl) rfl
theorem w_114 : Cond.fieldLink "SmallestSpeed$Sightings" (35 : Nat) "SmallestSpeed$Road" "readCell" "[I" ∈ tb := tb_t1 (show tables_1_1[73]? = some _ from rfl) rfl
theorem w_115 : Cond.fieldLink "SmallestSpeed$Road" (37 : Nat) "SmallestSpeed$Road" "readMinute" "[I" ∈ tb := tb_t1 (show tables_1_1[74]? = some _ from rfl) rfl
theorem w_116 : Cond.fieldLink "SmallestSpeed$Sightings" (28 : Nat) "SmallestSpeed$Road" "readMinute" "[I" ∈ tb := tb_t1 (show tables_1_1[75]? = some _ from rfl) rfl
theorem w_117 : Cond.fieldLink "SmallestSpeed$Road" (40 : Nat) "SmallestSpeed$Road" "readLimit" "[I" ∈ tb := tb_t1 (show tables_1_1[76]? = some _ from rfl) rfl
theorem w_118 : Cond.fieldLink "SmallestSpeed$Sightings" (42 : Nat) "SmallestSpeed$Road" "readLimit" "[I" ∈ tb := tb_t1 (show tables_1_1[77]? = some _ from rfl) rfl
theorem w_119 : Cond.fieldLink "SmallestSpeed$Road" (65 : Nat) "SmallestSpeed$Road" "undos" "I" ∈ tb := tb_t1 (show tables_1_1[78]? = some _ from rfl) rfl
theorem w_120 : Cond.fieldLink "SmallestSpeed" (104 : Nat) "SmallestSpeed$Road" "undos" "I" ∈ tb := tb_t1 (show tables_1_1[79]? = some _ from rfl) rfl
theorem w_121 : Cond.fieldLink "SmallestSpeed$Road" (43 : Nat) "SmallestSpeed$Road" "undoChild" "[I" ∈ tb := tb_t1 (show tables_1_1[80]? = some _ from rfl) rfl
theorem w_122 : Cond.fieldLink "SmallestSpeed$Road" (46 : Nat) "SmallestSpeed$Road" "undoBed" "[Z" ∈ tb := tb_t1 (show tables_1_1[81]? = some _ from rfl) rfl
theorem w_123 : Cond.fieldLink "SmallestSpeed$Road" (50 : Nat) "SmallestSpeed$Road" "undoWas" "[I" ∈ tb := tb_t1 (show tables_1_1[82]? = some _ from rfl) rfl
theorem w_124 : Cond.lays "SmallestSpeed$Road" "SmallestSpeed$Road" "sight" "I" ∈ tb := tb_t1 (show tables_1_1[83]? = some _ from rfl) rfl
theorem w_126 : Cond.lays "SmallestSpeed$Road" "SmallestSpeed$Road" "law" "I" ∈ tb := tb_t1 (show tables_1_1[85]? = some _ from rfl) rfl
theorem w_128 : Cond.lays "SmallestSpeed$Road" "SmallestSpeed$Road" "children" "I" ∈ tb := tb_t1 (show tables_1_1[87]? = some _ from rfl) rfl
theorem w_130 : Cond.laysFinal "SmallestSpeed$Road" "SmallestSpeed$Road" "kind" "[I" ∈ tb := tb_t1 (show tables_1_1[89]? = some _ from rfl) rfl
theorem w_132 : Cond.laysFinal "SmallestSpeed$Road" "SmallestSpeed$Road" "height" "[I" ∈ tb := tb_t1 (show tables_1_1[91]? = some _ from rfl) rfl
theorem w_134 : Cond.laysFinal "SmallestSpeed$Road" "SmallestSpeed$Road" "cell" "[I" ∈ tb := tb_t1 (show tables_1_1[93]? = some _ from rfl) rfl
theorem w_136 : Cond.laysFinal "SmallestSpeed$Road" "SmallestSpeed$Road" "steps" "[I" ∈ tb := tb_t1 (show tables_1_1[95]? = some _ from rfl) rfl
theorem w_138 : Cond.laysFinal "SmallestSpeed$Road" "SmallestSpeed$Road" "bed" "[I" ∈ tb := tb_t1 (show tables_1_1[97]? = some _ from rfl) rfl
theorem w_140 : Cond.lays "SmallestSpeed$Road" "SmallestSpeed$Road" "speeds" "I" ∈ tb := tb_t1 (show tables_1_1[99]? = some _ from rfl) rfl
theorem w_142 : Cond.laysFinal "SmallestSpeed$Road" "SmallestSpeed$Road" "speed" "[I" ∈ tb := tb_t1 (show tables_1_1[101]? = some _ from rfl) rfl
theorem w_144 : Cond.lays "SmallestSpeed$Road" "SmallestSpeed$Road" "readings" "I" ∈ tb := tb_t1 (show tables_1_1[103]? = some _ from rfl) rfl
theorem w_146 : Cond.laysFinal "SmallestSpeed$Road" "SmallestSpeed$Road" "readCell" "[I" ∈ tb := tb_t1 (show tables_1_1[105]? = some _ from rfl) rfl
theorem w_148 : Cond.laysFinal "SmallestSpeed$Road" "SmallestSpeed$Road" "readMinute" "[I" ∈ tb := tb_t1 (show tables_1_1[107]? = some _ from rfl) rfl
theorem w_150 : Cond.laysFinal "SmallestSpeed$Road" "SmallestSpeed$Road" "readLimit" "[I" ∈ tb := tb_t1 (show tables_1_1[109]? = some _ from rfl) rfl
theorem w_152 : Cond.lays "SmallestSpeed$Road" "SmallestSpeed$Road" "undos" "I" ∈ tb := tb_t1 (show tables_1_1[111]? = some _ from rfl) rfl
theorem w_154 : Cond.laysFinal "SmallestSpeed$Road" "SmallestSpeed$Road" "undoChild" "[I" ∈ tb := tb_t1 (show tables_1_1[113]? = some _ from rfl) rfl
theorem w_156 : Cond.laysFinal "SmallestSpeed$Road" "SmallestSpeed$Road" "undoBed" "[Z" ∈ tb := tb_t1 (show tables_1_1[115]? = some _ from rfl) rfl
theorem w_158 : Cond.laysFinal "SmallestSpeed$Road" "SmallestSpeed$Road" "undoWas" "[I" ∈ tb := tb_t1 (show tables_1_1[117]? = some _ from rfl) rfl
theorem w_161 : Cond.arrayClass FieldType.int ∈ tb := tb_t1 (show tables_1_1[120]? = some _ from rfl) rfl
theorem w_162 : Cond.arrayClass FieldType.boolean ∈ tb := tb_t1 (show tables_1_1[121]? = some _ from rfl) rfl
theorem w_163 : Cond.classLink "SmallestSpeed" (25 : Nat) "SmallestSpeed$RoadText" ∈ tb := tb_t1 (show tables_1_1[122]? = some _ from rfl) rfl
theorem w_164 : Cond.instantiable "SmallestSpeed$RoadText" (3 : Nat) ∈ tb := tb_t1 (show tables_1_1[123]? = some _ from rfl) rfl
theorem w_166 : Cond.instanceMethod ({ cls := "SmallestSpeed$RoadText", name := "<init>", desc := "()V" } : Jvm.MethodName) ∈ tb := tb_t1 (show tables_1_1[125]? = some _ from rfl) rfl
theorem w_167 : Cond.code ({ cls := "SmallestSpeed$RoadText", name := "<init>", desc := "()V" } : Jvm.MethodName) prog_9_method_1_code (1 : Nat) none ∈ tb := tb_t1 (show tables_1_1[126]? = some _ from rfl) rfl
theorem w_168 : Cond.methodLink "SmallestSpeed$RoadText" (3 : Nat) ({ cls := "java/lang/Object", name := "<init>", desc := "()V" } : Jvm.MethodName) ∈ tb := tb_t1 (show tables_1_1[127]? = some _ from rfl) rfl
theorem w_169 : Cond.fieldLink "SmallestSpeed$RoadText" (9 : Nat) "SmallestSpeed$RoadText" "bytes" "[I" ∈ tb := tb_t1 (show tables_1_1[128]? = some _ from rfl) rfl
theorem w_170 : Cond.fieldLink "SmallestSpeed$RoadText" (15 : Nat) "SmallestSpeed$RoadText" "length" "I" ∈ tb := tb_t1 (show tables_1_1[129]? = some _ from rfl) rfl
theorem w_171 : Cond.fieldLink "SmallestSpeed" (113 : Nat) "SmallestSpeed$RoadText" "length" "I" ∈ tb := tb_t1 (show tables_1_1[130]? = some _ from rfl) rfl
theorem w_172 : Cond.fieldLink "SmallestSpeed$RoadText" (19 : Nat) "SmallestSpeed$RoadText" "place" "I" ∈ tb := tb_t1 (show tables_1_1[131]? = some _ from rfl) rfl
theorem w_173 : Cond.laysFinal "SmallestSpeed$RoadText" "SmallestSpeed$RoadText" "bytes" "[I" ∈ tb := tb_t1 (show tables_1_1[132]? = some _ from rfl) rfl
theorem w_175 : Cond.lays "SmallestSpeed$RoadText" "SmallestSpeed$RoadText" "length" "I" ∈ tb := tb_t1 (show tables_1_1[134]? = some _ from rfl) rfl
theorem w_177 : Cond.lays "SmallestSpeed$RoadText" "SmallestSpeed$RoadText" "place" "I" ∈ tb := tb_t1 (show tables_1_1[136]? = some _ from rfl) rfl
theorem w_180 : Cond.classLink "SmallestSpeed" (32 : Nat) "SmallestSpeed$Limits" ∈ tb := tb_t1 (show tables_1_1[139]? = some _ from rfl) rfl
theorem w_181 : Cond.instantiable "SmallestSpeed$Limits" (8 : Nat) ∈ tb := tb_t1 (show tables_1_1[140]? = some _ from rfl) rfl
theorem w_183 : Cond.instanceMethod ({ cls := "SmallestSpeed$Limits", name := "<init>", desc := "()V" } : Jvm.MethodName) ∈ tb := tb_t1 (show tables_1_1[142]? = some _ from rfl) rfl
theorem w_184 : Cond.code ({ cls := "SmallestSpeed$Limits", name := "<init>", desc := "()V" } : Jvm.MethodName) prog_6_method_1_code (1 : Nat) none ∈ tb := tb_t1 (show tables_1_1[143]? = some _ from rfl) rfl
theorem w_185 : Cond.methodLink "SmallestSpeed$Limits" (3 : Nat) ({ cls := "java/lang/Object", name := "<init>", desc := "()V" } : Jvm.MethodName) ∈ tb := tb_t1 (show tables_1_1[144]? = some _ from rfl) rfl
theorem w_186 : Cond.classLink "SmallestSpeed$Limits" (9 : Nat) "SmallestSpeed$Walker" ∈ tb := tb_t1 (show tables_1_1[145]? = some _ from rfl) rfl
theorem w_187 : Cond.instantiable "SmallestSpeed$Walker" (0 : Nat) ∈ tb := tb_t1 (show tables_1_1[146]? = some _ from rfl) rfl
theorem w_189 : Cond.instanceMethod ({ cls := "SmallestSpeed$Walker", name := "<init>", desc := "()V" } : Jvm.MethodName) ∈ tb := tb_t1 (show tables_1_1[148]? = some _ from rfl) rfl
theorem w_190 : Cond.code ({ cls := "SmallestSpeed$Walker", name := "<init>", desc := "()V" } : Jvm.MethodName) prog_12_method_1_code (1 : Nat) none ∈ tb := tb_t1 (show tables_1_1[149]? = some _ from rfl) rfl
theorem w_191 : Cond.methodLink "SmallestSpeed$Walker" (3 : Nat) ({ cls := "java/lang/Object", name := "<init>", desc := "()V" } : Jvm.MethodName) ∈ tb := tb_t1 (show tables_1_1[150]? = some _ from rfl) rfl
theorem w_193 : Cond.classLink "SmallestSpeed$Limits" (18 : Nat) "SmallestSpeed$Held" ∈ tb := tb_t1 (show tables_1_1[152]? = some _ from rfl) rfl
theorem w_194 : Cond.instantiable "SmallestSpeed$Held" (0 : Nat) ∈ tb := tb_t1 (show tables_1_1[153]? = some _ from rfl) rfl
theorem w_196 : Cond.instanceMethod ({ cls := "SmallestSpeed$Held", name := "<init>", desc := "()V" } : Jvm.MethodName) ∈ tb := tb_t1 (show tables_1_1[155]? = some _ from rfl) rfl
theorem w_197 : Cond.code ({ cls := "SmallestSpeed$Held", name := "<init>", desc := "()V" } : Jvm.MethodName) prog_5_method_1_code (1 : Nat) none ∈ tb := tb_t1 (show tables_1_1[156]? = some _ from rfl) rfl
theorem w_199 : Cond.superclass "SmallestSpeed$Held" "SmallestSpeed$Walker" ∈ tb := tb_t1 (show tables_1_1[158]? = some _ from rfl) rfl
theorem w_200 : Cond.classLink "SmallestSpeed$Limits" (24 : Nat) "SmallestSpeed$Player" ∈ tb := tb_t1 (show tables_1_1[159]? = some _ from rfl) rfl
theorem w_201 : Cond.instantiable "SmallestSpeed$Player" (0 : Nat) ∈ tb := tb_t1 (show tables_1_1[160]? = some _ from rfl) rfl
theorem w_203 : Cond.instanceMethod ({ cls := "SmallestSpeed$Player", name := "<init>", desc := "()V" } : Jvm.MethodName) ∈ tb := tb_t1 (show tables_1_1[162]? = some _ from rfl) rfl
theorem w_204 : Cond.code ({ cls := "SmallestSpeed$Player", name := "<init>", desc := "()V" } : Jvm.MethodName) prog_7_method_1_code (1 : Nat) none ∈ tb := tb_t1 (show tables_1_1[163]? = some _ from rfl) rfl
theorem w_206 : Cond.superclass "SmallestSpeed$Player" "SmallestSpeed$Walker" ∈ tb := tb_t1 (show tables_1_1[165]? = some _ from rfl) rfl
theorem w_207 : Cond.classLink "SmallestSpeed$Limits" (30 : Nat) "SmallestSpeed$Twin" ∈ tb := tb_t1 (show tables_1_1[166]? = some _ from rfl) rfl
theorem w_208 : Cond.instantiable "SmallestSpeed$Twin" (0 : Nat) ∈ tb := tb_t1 (show tables_1_1[167]? = some _ from rfl) rfl
theorem w_210 : Cond.instanceMethod ({ cls := "SmallestSpeed$Twin", name := "<init>", desc := "()V" } : Jvm.MethodName) ∈ tb := tb_t1 (show tables_1_1[169]? = some _ from rfl) rfl
theorem w_211 : Cond.code ({ cls := "SmallestSpeed$Twin", name := "<init>", desc := "()V" } : Jvm.MethodName) prog_11_method_1_code (1 : Nat) none ∈ tb := tb_t1 (show tables_1_1[170]? = some _ from rfl) rfl
theorem w_213 : Cond.superclass "SmallestSpeed$Twin" "SmallestSpeed$Held" ∈ tb := tb_t1 (show tables_1_1[172]? = some _ from rfl) rfl
theorem w_214 : Cond.classLink "SmallestSpeed$Limits" (36 : Nat) "SmallestSpeed$Grows" ∈ tb := tb_t1 (show tables_1_1[173]? = some _ from rfl) rfl
theorem w_215 : Cond.instantiable "SmallestSpeed$Grows" (0 : Nat) ∈ tb := tb_t1 (show tables_1_1[174]? = some _ from rfl) rfl
theorem w_217 : Cond.instanceMethod ({ cls := "SmallestSpeed$Grows", name := "<init>", desc := "()V" } : Jvm.MethodName) ∈ tb := tb_t1 (show tables_1_1[176]? = some _ from rfl) rfl
theorem w_218 : Cond.code ({ cls := "SmallestSpeed$Grows", name := "<init>", desc := "()V" } : Jvm.MethodName) prog_4_method_1_code (1 : Nat) none ∈ tb := tb_t1 (show tables_1_1[177]? = some _ from rfl) rfl
theorem w_220 : Cond.superclass "SmallestSpeed$Grows" "SmallestSpeed$Walker" ∈ tb := tb_t1 (show tables_1_1[179]? = some _ from rfl) rfl
theorem w_221 : Cond.classLink "SmallestSpeed$Limits" (42 : Nat) "SmallestSpeed$Doll" ∈ tb := tb_t1 (show tables_1_1[180]? = some _ from rfl) rfl
theorem w_222 : Cond.instantiable "SmallestSpeed$Doll" (0 : Nat) ∈ tb := tb_t1 (show tables_1_1[181]? = some _ from rfl) rfl
theorem w_224 : Cond.instanceMethod ({ cls := "SmallestSpeed$Doll", name := "<init>", desc := "()V" } : Jvm.MethodName) ∈ tb := tb_t1 (show tables_1_1[183]? = some _ from rfl) rfl
theorem w_225 : Cond.code ({ cls := "SmallestSpeed$Doll", name := "<init>", desc := "()V" } : Jvm.MethodName) prog_2_method_1_code (1 : Nat) none ∈ tb := tb_t1 (show tables_1_1[184]? = some _ from rfl) rfl
theorem w_227 : Cond.superclass "SmallestSpeed$Doll" "SmallestSpeed$Player" ∈ tb := tb_t1 (show tables_1_1[186]? = some _ from rfl) rfl
theorem w_228 : Cond.fieldLink "SmallestSpeed$Limits" (12 : Nat) "SmallestSpeed$Limits" "walker" "LSmallestSpeed$Walker;" ∈ tb := tb_t1 (show tables_1_1[187]? = some _ from rfl) rfl
theorem w_229 : Cond.fieldLink "SmallestSpeed$Limits" (21 : Nat) "SmallestSpeed$Limits" "held" "LSmallestSpeed$Walker;" ∈ tb := tb_t1 (show tables_1_1[188]? = some _ from rfl) rfl
theorem w_230 : Cond.fieldLink "SmallestSpeed$Limits" (27 : Nat) "SmallestSpeed$Limits" "player" "LSmallestSpeed$Walker;" ∈ tb := tb_t1 (show tables_1_1[189]? = some _ from rfl) rfl
theorem w_231 : Cond.fieldLink "SmallestSpeed$Limits" (33 : Nat) "SmallestSpeed$Limits" "twin" "LSmallestSpeed$Walker;" ∈ tb := tb_t1 (show tables_1_1[190]? = some _ from rfl) rfl
theorem w_232 : Cond.fieldLink "SmallestSpeed$Limits" (39 : Nat) "SmallestSpeed$Limits" "grows" "LSmallestSpeed$Walker;" ∈ tb := tb_t1 (show tables_1_1[191]? = some _ from rfl) rfl
theorem w_233 : Cond.fieldLink "SmallestSpeed$Limits" (45 : Nat) "SmallestSpeed$Limits" "doll" "LSmallestSpeed$Walker;" ∈ tb := tb_t1 (show tables_1_1[192]? = some _ from rfl) rfl
theorem w_234 : Cond.fieldLink "SmallestSpeed$Limits" (48 : Nat) "SmallestSpeed$Limits" "cells" "[I" ∈ tb := tb_t1 (show tables_1_1[193]? = some _ from rfl) rfl
theorem w_235 : Cond.fieldLink "SmallestSpeed" (141 : Nat) "SmallestSpeed$Limits" "cells" "[I" ∈ tb := tb_t1 (show tables_1_1[194]? = some _ from rfl) rfl
theorem w_236 : Cond.fieldLink "SmallestSpeed$Limits" (52 : Nat) "SmallestSpeed$Limits" "highs" "[I" ∈ tb := tb_t1 (show tables_1_1[195]? = some _ from rfl) rfl
theorem w_237 : Cond.fieldLink "SmallestSpeed" (144 : Nat) "SmallestSpeed$Limits" "highs" "[I" ∈ tb := tb_t1 (show tables_1_1[196]? = some _ from rfl) rfl
theorem w_238 : Cond.laysFinal "SmallestSpeed$Limits" "SmallestSpeed$Limits" "walker" "LSmallestSpeed$Walker;" ∈ tb := tb_t1 (show tables_1_1[197]? = some _ from rfl) rfl
theorem w_240 : Cond.laysFinal "SmallestSpeed$Limits" "SmallestSpeed$Limits" "held" "LSmallestSpeed$Walker;" ∈ tb := tb_t1 (show tables_1_1[199]? = some _ from rfl) rfl
theorem w_242 : Cond.laysFinal "SmallestSpeed$Limits" "SmallestSpeed$Limits" "player" "LSmallestSpeed$Walker;" ∈ tb := tb_t1 (show tables_1_1[201]? = some _ from rfl) rfl
theorem w_244 : Cond.laysFinal "SmallestSpeed$Limits" "SmallestSpeed$Limits" "twin" "LSmallestSpeed$Walker;" ∈ tb := tb_t1 (show tables_1_1[203]? = some _ from rfl) rfl
theorem w_246 : Cond.laysFinal "SmallestSpeed$Limits" "SmallestSpeed$Limits" "grows" "LSmallestSpeed$Walker;" ∈ tb := tb_t1 (show tables_1_1[205]? = some _ from rfl) rfl
theorem w_248 : Cond.laysFinal "SmallestSpeed$Limits" "SmallestSpeed$Limits" "doll" "LSmallestSpeed$Walker;" ∈ tb := tb_t1 (show tables_1_1[207]? = some _ from rfl) rfl
theorem w_250 : Cond.laysFinal "SmallestSpeed$Limits" "SmallestSpeed$Limits" "cells" "[I" ∈ tb := tb_t1 (show tables_1_1[209]? = some _ from rfl) rfl
theorem w_252 : Cond.laysFinal "SmallestSpeed$Limits" "SmallestSpeed$Limits" "highs" "[I" ∈ tb := tb_t1 (show tables_1_1[211]? = some _ from rfl) rfl
theorem w_255 : Cond.classLink "SmallestSpeed" (39 : Nat) "SmallestSpeed$Drives" ∈ tb := tb_t1 (show tables_1_1[214]? = some _ from rfl) rfl
theorem w_256 : Cond.instantiable "SmallestSpeed$Drives" (2 : Nat) ∈ tb := tb_t1 (show tables_1_1[215]? = some _ from rfl) rfl
theorem w_258 : Cond.instanceMethod ({ cls := "SmallestSpeed$Drives", name := "<init>", desc := "()V" } : Jvm.MethodName) ∈ tb := tb_t1 (show tables_1_1[217]? = some _ from rfl) rfl
theorem w_259 : Cond.code ({ cls := "SmallestSpeed$Drives", name := "<init>", desc := "()V" } : Jvm.MethodName) prog_3_method_1_code (1 : Nat) none ∈ tb := tb_t1 (show tables_1_1[218]? = some _ from rfl) rfl
theorem w_260 : Cond.methodLink "SmallestSpeed$Drives" (3 : Nat) ({ cls := "java/lang/Object", name := "<init>", desc := "()V" } : Jvm.MethodName) ∈ tb := tb_t1 (show tables_1_1[219]? = some _ from rfl) rfl
theorem w_261 : Cond.classLink "SmallestSpeed$Drives" (9 : Nat) "SmallestSpeed$Limits" ∈ tb := tb_t1 (show tables_1_1[220]? = some _ from rfl) rfl
theorem w_263 : Cond.fieldLink "SmallestSpeed$Drives" (12 : Nat) "SmallestSpeed$Drives" "limits" "LSmallestSpeed$Limits;" ∈ tb := tb_t1 (show tables_1_1[222]? = some _ from rfl) rfl
theorem w_264 : Cond.fieldLink "SmallestSpeed$Drives" (18 : Nat) "SmallestSpeed$Drives" "ends" "[I" ∈ tb := tb_t1 (show tables_1_1[223]? = some _ from rfl) rfl
theorem w_265 : Cond.laysFinal "SmallestSpeed$Drives" "SmallestSpeed$Drives" "limits" "LSmallestSpeed$Limits;" ∈ tb := tb_t1 (show tables_1_1[224]? = some _ from rfl) rfl
theorem w_267 : Cond.laysFinal "SmallestSpeed$Drives" "SmallestSpeed$Drives" "ends" "[I" ∈ tb := tb_t1 (show tables_1_1[226]? = some _ from rfl) rfl
theorem w_270 : Cond.classLink "SmallestSpeed" (46 : Nat) "SmallestSpeed$Sightings" ∈ tb := tb_t1 (show tables_1_1[229]? = some _ from rfl) rfl
theorem w_271 : Cond.instantiable "SmallestSpeed$Sightings" (2 : Nat) ∈ tb := tb_t1 (show tables_1_1[230]? = some _ from rfl) rfl
theorem w_273 : Cond.instanceMethod ({ cls := "SmallestSpeed$Sightings", name := "<init>", desc := "()V" } : Jvm.MethodName) ∈ tb := tb_t1 (show tables_1_1[232]? = some _ from rfl) rfl
theorem w_274 : Cond.code ({ cls := "SmallestSpeed$Sightings", name := "<init>", desc := "()V" } : Jvm.MethodName) prog_10_method_1_code (1 : Nat) none ∈ tb := tb_t1 (show tables_1_1[233]? = some _ from rfl) rfl
theorem w_275 : Cond.methodLink "SmallestSpeed$Sightings" (3 : Nat) ({ cls := "java/lang/Object", name := "<init>", desc := "()V" } : Jvm.MethodName) ∈ tb := tb_t1 (show tables_1_1[234]? = some _ from rfl) rfl
theorem w_276 : Cond.classLink "SmallestSpeed$Sightings" (9 : Nat) "SmallestSpeed$Limits" ∈ tb := tb_t1 (show tables_1_1[235]? = some _ from rfl) rfl
theorem w_278 : Cond.fieldLink "SmallestSpeed$Sightings" (12 : Nat) "SmallestSpeed$Sightings" "limits" "LSmallestSpeed$Limits;" ∈ tb := tb_t1 (show tables_1_1[237]? = some _ from rfl) rfl
theorem w_279 : Cond.fieldLink "SmallestSpeed$Sightings" (18 : Nat) "SmallestSpeed$Sightings" "alike" "[I" ∈ tb := tb_t1 (show tables_1_1[238]? = some _ from rfl) rfl
theorem w_280 : Cond.laysFinal "SmallestSpeed$Sightings" "SmallestSpeed$Sightings" "limits" "LSmallestSpeed$Limits;" ∈ tb := tb_t1 (show tables_1_1[239]? = some _ from rfl) rfl
theorem w_282 : Cond.laysFinal "SmallestSpeed$Sightings" "SmallestSpeed$Sightings" "alike" "[I" ∈ tb := tb_t2 (show tables_1_2[1]? = some _ from rfl) rfl
theorem w_285 : Cond.fieldLink "SmallestSpeed" (10 : Nat) "SmallestSpeed" "now" "LSmallestSpeed$Road;" ∈ tb := tb_t2 (show tables_1_2[4]? = some _ from rfl) rfl
theorem w_286 : Cond.fieldLink "SmallestSpeed" (16 : Nat) "SmallestSpeed" "trial" "LSmallestSpeed$Road;" ∈ tb := tb_t2 (show tables_1_2[5]? = some _ from rfl) rfl
theorem w_287 : Cond.fieldLink "SmallestSpeed" (19 : Nat) "SmallestSpeed" "image0" "LSmallestSpeed$Road;" ∈ tb := tb_t2 (show tables_1_2[6]? = some _ from rfl) rfl
theorem w_288 : Cond.fieldLink "SmallestSpeed" (22 : Nat) "SmallestSpeed" "image1" "LSmallestSpeed$Road;" ∈ tb := tb_t2 (show tables_1_2[7]? = some _ from rfl) rfl
theorem w_289 : Cond.fieldLink "SmallestSpeed" (236 : Nat) "SmallestSpeed" "kept0" "Z" ∈ tb := tb_t2 (show tables_1_2[8]? = some _ from rfl) rfl
theorem w_290 : Cond.fieldLink "SmallestSpeed" (240 : Nat) "SmallestSpeed" "kept1" "Z" ∈ tb := tb_t2 (show tables_1_2[9]? = some _ from rfl) rfl
theorem w_291 : Cond.fieldLink "SmallestSpeed" (28 : Nat) "SmallestSpeed" "text" "LSmallestSpeed$RoadText;" ∈ tb := tb_t2 (show tables_1_2[10]? = some _ from rfl) rfl
theorem w_292 : Cond.fieldLink "SmallestSpeed" (35 : Nat) "SmallestSpeed" "limits" "LSmallestSpeed$Limits;" ∈ tb := tb_t2 (show tables_1_2[11]? = some _ from rfl) rfl
theorem w_293 : Cond.fieldLink "SmallestSpeed" (42 : Nat) "SmallestSpeed" "drives" "LSmallestSpeed$Drives;" ∈ tb := tb_t2 (show tables_1_2[12]? = some _ from rfl) rfl
theorem w_294 : Cond.fieldLink "SmallestSpeed" (49 : Nat) "SmallestSpeed" "sightings" "LSmallestSpeed$Sightings;" ∈ tb := tb_t2 (show tables_1_2[13]? = some _ from rfl) rfl
theorem w_295 : Cond.fieldLink "SmallestSpeed" (233 : Nat) "SmallestSpeed" "above" "I" ∈ tb := tb_t2 (show tables_1_2[14]? = some _ from rfl) rfl
theorem w_296 : Cond.fieldLink "SmallestSpeed" (53 : Nat) "SmallestSpeed" "below" "I" ∈ tb := tb_t2 (show tables_1_2[15]? = some _ from rfl) rfl
theorem w_297 : Cond.fieldLink "SmallestSpeed" (243 : Nat) "SmallestSpeed" "refusedBad" "I" ∈ tb := tb_t2 (show tables_1_2[16]? = some _ from rfl) rfl
theorem w_298 : Cond.fieldLink "SmallestSpeed" (246 : Nat) "SmallestSpeed" "refusedNo" "I" ∈ tb := tb_t2 (show tables_1_2[17]? = some _ from rfl) rfl
theorem w_299 : Cond.fieldLink "SmallestSpeed" (249 : Nat) "SmallestSpeed" "refusedFull" "I" ∈ tb := tb_t2 (show tables_1_2[18]? = some _ from rfl) rfl
theorem w_300 : Cond.laysFinal "SmallestSpeed" "SmallestSpeed" "now" "LSmallestSpeed$Road;" ∈ tb := tb_t2 (show tables_1_2[19]? = some _ from rfl) rfl
theorem w_302 : Cond.laysFinal "SmallestSpeed" "SmallestSpeed" "trial" "LSmallestSpeed$Road;" ∈ tb := tb_t2 (show tables_1_2[21]? = some _ from rfl) rfl
theorem w_304 : Cond.laysFinal "SmallestSpeed" "SmallestSpeed" "image0" "LSmallestSpeed$Road;" ∈ tb := tb_t2 (show tables_1_2[23]? = some _ from rfl) rfl
theorem w_306 : Cond.laysFinal "SmallestSpeed" "SmallestSpeed" "image1" "LSmallestSpeed$Road;" ∈ tb := tb_t2 (show tables_1_2[25]? = some _ from rfl) rfl
theorem w_308 : Cond.lays "SmallestSpeed" "SmallestSpeed" "kept0" "Z" ∈ tb := tb_t2 (show tables_1_2[27]? = some _ from rfl) rfl
theorem w_310 : Cond.lays "SmallestSpeed" "SmallestSpeed" "kept1" "Z" ∈ tb := tb_t2 (show tables_1_2[29]? = some _ from rfl) rfl
theorem w_312 : Cond.laysFinal "SmallestSpeed" "SmallestSpeed" "text" "LSmallestSpeed$RoadText;" ∈ tb := tb_t2 (show tables_1_2[31]? = some _ from rfl) rfl
theorem w_314 : Cond.laysFinal "SmallestSpeed" "SmallestSpeed" "limits" "LSmallestSpeed$Limits;" ∈ tb := tb_t2 (show tables_1_2[33]? = some _ from rfl) rfl
theorem w_316 : Cond.laysFinal "SmallestSpeed" "SmallestSpeed" "drives" "LSmallestSpeed$Drives;" ∈ tb := tb_t2 (show tables_1_2[35]? = some _ from rfl) rfl
theorem w_318 : Cond.laysFinal "SmallestSpeed" "SmallestSpeed" "sightings" "LSmallestSpeed$Sightings;" ∈ tb := tb_t2 (show tables_1_2[37]? = some _ from rfl) rfl
theorem w_320 : Cond.lays "SmallestSpeed" "SmallestSpeed" "above" "I" ∈ tb := tb_t2 (show tables_1_2[39]? = some _ from rfl) rfl
theorem w_322 : Cond.lays "SmallestSpeed" "SmallestSpeed" "below" "I" ∈ tb := tb_t2 (show tables_1_2[41]? = some _ from rfl) rfl
theorem w_324 : Cond.lays "SmallestSpeed" "SmallestSpeed" "refusedBad" "I" ∈ tb := tb_t2 (show tables_1_2[43]? = some _ from rfl) rfl
theorem w_326 : Cond.lays "SmallestSpeed" "SmallestSpeed" "refusedNo" "I" ∈ tb := tb_t2 (show tables_1_2[45]? = some _ from rfl) rfl
theorem w_328 : Cond.lays "SmallestSpeed" "SmallestSpeed" "refusedFull" "I" ∈ tb := tb_t2 (show tables_1_2[47]? = some _ from rfl) rfl
theorem w_331 : Cond.methodLink "SmallestSpeedLaw" (13 : Nat) ({ cls := "SmallestSpeed", name := "road", desc := "(II)I" } : Jvm.MethodName) ∈ tb := tb_t2 (show tables_1_2[50]? = some _ from rfl) rfl
theorem w_332 : Cond.instanceMethod ({ cls := "SmallestSpeed", name := "road", desc := "(II)I" } : Jvm.MethodName) ∈ tb := tb_t2 (show tables_1_2[51]? = some _ from rfl) rfl
theorem w_333 : Cond.selects "SmallestSpeed" ({ cls := "SmallestSpeed", name := "road", desc := "(II)I" } : Jvm.MethodName) ({ cls := "SmallestSpeed", name := "road", desc := "(II)I" } : Jvm.MethodName) ∈ tb := tb_t2 (show tables_1_2[52]? = some _ from rfl) rfl
theorem w_334 : Cond.code ({ cls := "SmallestSpeed", name := "road", desc := "(II)I" } : Jvm.MethodName) prog_1_method_2_code (4 : Nat) (some FieldType.int) ∈ tb := tb_t2 (show tables_1_2[53]? = some _ from rfl) rfl
theorem w_335 : Cond.methodLink "SmallestSpeed" (57 : Nat) ({ cls := "SmallestSpeed", name := "within", desc := "(III)Z" } : Jvm.MethodName) ∈ tb := tb_t2 (show tables_1_2[54]? = some _ from rfl) rfl
theorem w_336 : Cond.static ({ cls := "SmallestSpeed", name := "within", desc := "(III)Z" } : Jvm.MethodName) ∈ tb := tb_t2 (show tables_1_2[55]? = some _ from rfl) rfl
theorem w_337 : Cond.code ({ cls := "SmallestSpeed", name := "within", desc := "(III)Z" } : Jvm.MethodName) prog_1_method_45_code (3 : Nat) (some FieldType.boolean) ∈ tb := tb_t2 (show tables_1_2[56]? = some _ from rfl) rfl
theorem w_338 : Cond.methodLink "SmallestSpeed" (61 : Nat) ({ cls := "SmallestSpeed", name := "refuseBad", desc := "(I)I" } : Jvm.MethodName) ∈ tb := tb_t2 (show tables_1_2[57]? = some _ from rfl) rfl
theorem w_340 : Cond.instanceMethod ({ cls := "SmallestSpeed", name := "refuseBad", desc := "(I)I" } : Jvm.MethodName) ∈ tb := tb_t2 (show tables_1_2[59]? = some _ from rfl) rfl
theorem w_341 : Cond.code ({ cls := "SmallestSpeed", name := "refuseBad", desc := "(I)I" } : Jvm.MethodName) prog_1_method_38_code (2 : Nat) (some FieldType.int) ∈ tb := tb_t2 (show tables_1_2[60]? = some _ from rfl) rfl
theorem w_342 : Cond.methodLink "SmallestSpeed" (68 : Nat) ({ cls := "SmallestSpeed$Road", name := "begin", desc := "(II)V" } : Jvm.MethodName) ∈ tb := tb_t2 (show tables_1_2[61]? = some _ from rfl) rfl
theorem w_343 : Cond.instanceMethod ({ cls := "SmallestSpeed$Road", name := "begin", desc := "(II)V" } : Jvm.MethodName) ∈ tb := tb_t2 (show tables_1_2[62]? = some _ from rfl) rfl
theorem w_344 : Cond.selects "SmallestSpeed$Road" ({ cls := "SmallestSpeed$Road", name := "begin", desc := "(II)V" } : Jvm.MethodName) ({ cls := "SmallestSpeed$Road", name := "begin", desc := "(II)V" } : Jvm.MethodName) ∈ tb := tb_t2 (show tables_1_2[63]? = some _ from rfl) rfl
theorem w_345 : Cond.code ({ cls := "SmallestSpeed$Road", name := "begin", desc := "(II)V" } : Jvm.MethodName) prog_8_method_2_code (3 : Nat) none ∈ tb := tb_t2 (show tables_1_2[64]? = some _ from rfl) rfl
theorem w_346 : Cond.methodLink "SmallestSpeedLaw" (18 : Nat) ({ cls := "SmallestSpeed", name := "rule", desc := "(I)I" } : Jvm.MethodName) ∈ tb := tb_t2 (show tables_1_2[65]? = some _ from rfl) rfl
theorem w_347 : Cond.instanceMethod ({ cls := "SmallestSpeed", name := "rule", desc := "(I)I" } : Jvm.MethodName) ∈ tb := tb_t2 (show tables_1_2[66]? = some _ from rfl) rfl
theorem w_348 : Cond.selects "SmallestSpeed" ({ cls := "SmallestSpeed", name := "rule", desc := "(I)I" } : Jvm.MethodName) ({ cls := "SmallestSpeed", name := "rule", desc := "(I)I" } : Jvm.MethodName) ∈ tb := tb_t2 (show tables_1_2[67]? = some _ from rfl) rfl
theorem w_349 : Cond.code ({ cls := "SmallestSpeed", name := "rule", desc := "(I)I" } : Jvm.MethodName) prog_1_method_3_code (3 : Nat) (some FieldType.int) ∈ tb := tb_t2 (show tables_1_2[68]? = some _ from rfl) rfl
theorem w_350 : Cond.methodLink "SmallestSpeedLaw" (23 : Nat) ({ cls := "SmallestSpeed", name := "sight", desc := "(I)I" } : Jvm.MethodName) ∈ tb := tb_t2 (show tables_1_2[69]? = some _ from rfl) rfl
theorem w_351 : Cond.instanceMethod ({ cls := "SmallestSpeed", name := "sight", desc := "(I)I" } : Jvm.MethodName) ∈ tb := tb_t2 (show tables_1_2[70]? = some _ from rfl) rfl
theorem w_352 : Cond.selects "SmallestSpeed" ({ cls := "SmallestSpeed", name := "sight", desc := "(I)I" } : Jvm.MethodName) ({ cls := "SmallestSpeed", name := "sight", desc := "(I)I" } : Jvm.MethodName) ∈ tb := tb_t2 (show tables_1_2[71]? = some _ from rfl) rfl
theorem w_353 : Cond.code ({ cls := "SmallestSpeed", name := "sight", desc := "(I)I" } : Jvm.MethodName) prog_1_method_4_code (3 : Nat) (some FieldType.int) ∈ tb := tb_t2 (show tables_1_2[72]? = some _ from rfl) rfl
theorem w_354 : Cond.methodLink "SmallestSpeedLaw" (27 : Nat) ({ cls := "SmallestSpeed", name := "child", desc := "(IIIII)I" } : Jvm.MethodName) ∈ tb := tb_t2 (show tables_1_2[73]? = some _ from rfl) rfl
theorem w_355 : Cond.instanceMethod ({ cls := "SmallestSpeed", name := "child", desc := "(IIIII)I" } : Jvm.MethodName) ∈ tb := tb_t2 (show tables_1_2[74]? = some _ from rfl) rfl
theorem w_356 : Cond.selects "SmallestSpeed" ({ cls := "SmallestSpeed", name := "child", desc := "(IIIII)I" } : Jvm.MethodName) ({ cls := "SmallestSpeed", name := "child", desc := "(IIIII)I" } : Jvm.MethodName) ∈ tb := tb_t2 (show tables_1_2[75]? = some _ from rfl) rfl
theorem w_357 : Cond.code ({ cls := "SmallestSpeed", name := "child", desc := "(IIIII)I" } : Jvm.MethodName) prog_1_method_5_code (7 : Nat) (some FieldType.int) ∈ tb := tb_t2 (show tables_1_2[76]? = some _ from rfl) rfl
theorem w_358 : Cond.methodLink "SmallestSpeed" (78 : Nat) ({ cls := "SmallestSpeed", name := "isCell", desc := "(I)Z" } : Jvm.MethodName) ∈ tb := tb_t2 (show tables_1_2[77]? = some _ from rfl) rfl
theorem w_359 : Cond.static ({ cls := "SmallestSpeed", name := "isCell", desc := "(I)Z" } : Jvm.MethodName) ∈ tb := tb_t2 (show tables_1_2[78]? = some _ from rfl) rfl
theorem w_360 : Cond.code ({ cls := "SmallestSpeed", name := "isCell", desc := "(I)Z" } : Jvm.MethodName) prog_1_method_42_code (1 : Nat) (some FieldType.boolean) ∈ tb := tb_t2 (show tables_1_2[79]? = some _ from rfl) rfl
theorem w_361 : Cond.methodLink "SmallestSpeed" (82 : Nat) ({ cls := "SmallestSpeed", name := "refuseFull", desc := "()I" } : Jvm.MethodName) ∈ tb := tb_t2 (show tables_1_2[80]? = some _ from rfl) rfl
theorem w_363 : Cond.instanceMethod ({ cls := "SmallestSpeed", name := "refuseFull", desc := "()I" } : Jvm.MethodName) ∈ tb := tb_t2 (show tables_1_2[82]? = some _ from rfl) rfl
theorem w_364 : Cond.code ({ cls := "SmallestSpeed", name := "refuseFull", desc := "()I" } : Jvm.MethodName) prog_1_method_40_code (1 : Nat) (some FieldType.int) ∈ tb := tb_t2 (show tables_1_2[83]? = some _ from rfl) rfl
theorem w_365 : Cond.methodLink "SmallestSpeed" (86 : Nat) ({ cls := "SmallestSpeed$Road", name := "addChild", desc := "(IIIII)V" } : Jvm.MethodName) ∈ tb := tb_t2 (show tables_1_2[84]? = some _ from rfl) rfl
theorem w_366 : Cond.instanceMethod ({ cls := "SmallestSpeed$Road", name := "addChild", desc := "(IIIII)V" } : Jvm.MethodName) ∈ tb := tb_t2 (show tables_1_2[85]? = some _ from rfl) rfl
theorem w_367 : Cond.selects "SmallestSpeed$Road" ({ cls := "SmallestSpeed$Road", name := "addChild", desc := "(IIIII)V" } : Jvm.MethodName) ({ cls := "SmallestSpeed$Road", name := "addChild", desc := "(IIIII)V" } : Jvm.MethodName) ∈ tb := tb_t2 (show tables_1_2[86]? = some _ from rfl) rfl
theorem w_368 : Cond.code ({ cls := "SmallestSpeed$Road", name := "addChild", desc := "(IIIII)V" } : Jvm.MethodName) prog_8_method_3_code (6 : Nat) none ∈ tb := tb_t2 (show tables_1_2[87]? = some _ from rfl) rfl
theorem w_369 : Cond.methodLink "SmallestSpeedLaw" (32 : Nat) ({ cls := "SmallestSpeed", name := "stand", desc := "(II)I" } : Jvm.MethodName) ∈ tb := tb_t2 (show tables_1_2[88]? = some _ from rfl) rfl
theorem w_370 : Cond.instanceMethod ({ cls := "SmallestSpeed", name := "stand", desc := "(II)I" } : Jvm.MethodName) ∈ tb := tb_t2 (show tables_1_2[89]? = some _ from rfl) rfl
theorem w_371 : Cond.selects "SmallestSpeed" ({ cls := "SmallestSpeed", name := "stand", desc := "(II)I" } : Jvm.MethodName) ({ cls := "SmallestSpeed", name := "stand", desc := "(II)I" } : Jvm.MethodName) ∈ tb := tb_t2 (show tables_1_2[90]? = some _ from rfl) rfl
theorem w_372 : Cond.code ({ cls := "SmallestSpeed", name := "stand", desc := "(II)I" } : Jvm.MethodName) prog_1_method_6_code (4 : Nat) (some FieldType.int) ∈ tb := tb_t2 (show tables_1_2[91]? = some _ from rfl) rfl
theorem w_373 : Cond.methodLink "SmallestSpeed" (90 : Nat) ({ cls := "SmallestSpeed", name := "isChild", desc := "(I)Z" } : Jvm.MethodName) ∈ tb := tb_t2 (show tables_1_2[92]? = some _ from rfl) rfl
theorem w_375 : Cond.instanceMethod ({ cls := "SmallestSpeed", name := "isChild", desc := "(I)Z" } : Jvm.MethodName) ∈ tb := tb_t2 (show tables_1_2[94]? = some _ from rfl) rfl
theorem w_376 : Cond.code ({ cls := "SmallestSpeed", name := "isChild", desc := "(I)Z" } : Jvm.MethodName) prog_1_method_41_code (2 : Nat) (some FieldType.boolean) ∈ tb := tb_t2 (show tables_1_2[95]? = some _ from rfl) rfl
theorem w_377 : Cond.methodLink "SmallestSpeed" (97 : Nat) ({ cls := "SmallestSpeed$Road", name := "keepForUndo", desc := "(IZI)V" } : Jvm.MethodName) ∈ tb := tb_t2 (show tables_1_2[96]? = some _ from rfl) rfl
theorem w_378 : Cond.instanceMethod ({ cls := "SmallestSpeed$Road", name := "keepForUndo", desc := "(IZI)V" } : Jvm.MethodName) ∈ tb := tb_t2 (show tables_1_2[97]? = some _ from rfl) rfl
theorem w_379 : Cond.selects "SmallestSpeed$Road" ({ cls := "SmallestSpeed$Road", name := "keepForUndo", desc := "(IZI)V" } : Jvm.MethodName) ({ cls := "SmallestSpeed$Road", name := "keepForUndo", desc := "(IZI)V" } : Jvm.MethodName) ∈ tb := tb_t2 (show tables_1_2[98]? = some _ from rfl) rfl
theorem w_380 : Cond.code ({ cls := "SmallestSpeed$Road", name := "keepForUndo", desc := "(IZI)V" } : Jvm.MethodName) prog_8_method_6_code (4 : Nat) none ∈ tb := tb_t2 (show tables_1_2[99]? = some _ from rfl) rfl
theorem w_381 : Cond.methodLink "SmallestSpeed$Road" (68 : Nat) ({ cls := "java/lang/System", name := "arraycopy", desc := "(Ljava/lang/Object;ILjava/lang/Object;II)V" } : Jvm.MethodName) ∈ tb := tb_t2 (show tables_1_2[100]? = some _ from rfl) rfl
theorem w_382 : Cond.static ({ cls := "java/lang/System", name := "arraycopy", desc := "(Ljava/lang/Object;ILjava/lang/Object;II)V" } : Jvm.MethodName) ∈ tb := tb_t2 (show tables_1_2[101]? = some _ from rfl) rfl
theorem w_383 : Cond.native ({ cls := "java/lang/System", name := "arraycopy", desc := "(Ljava/lang/Object;ILjava/lang/Object;II)V" } : Jvm.MethodName) ∈ tb := tb_t2 (show tables_1_2[102]? = some _ from rfl) rfl
theorem w_384 : Cond.methodLink "SmallestSpeedLaw" (36 : Nat) ({ cls := "SmallestSpeed", name := "bed", desc := "(II)I" } : Jvm.MethodName) ∈ tb := tb_t2 (show tables_1_2[103]? = some _ from rfl) rfl
theorem w_385 : Cond.instanceMethod ({ cls := "SmallestSpeed", name := "bed", desc := "(II)I" } : Jvm.MethodName) ∈ tb := tb_t2 (show tables_1_2[104]? = some _ from rfl) rfl
theorem w_386 : Cond.selects "SmallestSpeed" ({ cls := "SmallestSpeed", name := "bed", desc := "(II)I" } : Jvm.MethodName) ({ cls := "SmallestSpeed", name := "bed", desc := "(II)I" } : Jvm.MethodName) ∈ tb := tb_t2 (show tables_1_2[105]? = some _ from rfl) rfl
theorem w_387 : Cond.code ({ cls := "SmallestSpeed", name := "bed", desc := "(II)I" } : Jvm.MethodName) prog_1_method_7_code (4 : Nat) (some FieldType.int) ∈ tb := tb_t2 (show tables_1_2[106]? = some _ from rfl) rfl
theorem w_388 : Cond.methodLink "SmallestSpeedLaw" (40 : Nat) ({ cls := "SmallestSpeed", name := "undo", desc := "()I" } : Jvm.MethodName) ∈ tb := tb_t2 (show tables_1_2[107]? = some _ from rfl) rfl
theorem w_389 : Cond.instanceMethod ({ cls := "SmallestSpeed", name := "undo", desc := "()I" } : Jvm.MethodName) ∈ tb := tb_t2 (show tables_1_2[108]? = some _ from rfl) rfl
theorem w_390 : Cond.selects "SmallestSpeed" ({ cls := "SmallestSpeed", name := "undo", desc := "()I" } : Jvm.MethodName) ({ cls := "SmallestSpeed", name := "undo", desc := "()I" } : Jvm.MethodName) ∈ tb := tb_t2 (show tables_1_2[109]? = some _ from rfl) rfl
theorem w_391 : Cond.code ({ cls := "SmallestSpeed", name := "undo", desc := "()I" } : Jvm.MethodName) prog_1_method_8_code (1 : Nat) (some FieldType.int) ∈ tb := tb_t2 (show tables_1_2[110]? = some _ from rfl) rfl
theorem w_392 : Cond.methodLink "SmallestSpeed" (107 : Nat) ({ cls := "SmallestSpeed", name := "refuseNo", desc := "()I" } : Jvm.MethodName) ∈ tb := tb_t2 (show tables_1_2[111]? = some _ from rfl) rfl
theorem w_394 : Cond.instanceMethod ({ cls := "SmallestSpeed", name := "refuseNo", desc := "()I" } : Jvm.MethodName) ∈ tb := tb_t2 (show tables_1_2[113]? = some _ from rfl) rfl
theorem w_395 : Cond.code ({ cls := "SmallestSpeed", name := "refuseNo", desc := "()I" } : Jvm.MethodName) prog_1_method_39_code (1 : Nat) (some FieldType.int) ∈ tb := tb_t2 (show tables_1_2[114]? = some _ from rfl) rfl
theorem w_396 : Cond.methodLink "SmallestSpeed" (110 : Nat) ({ cls := "SmallestSpeed$Road", name := "undoLast", desc := "()V" } : Jvm.MethodName) ∈ tb := tb_t2 (show tables_1_2[115]? = some _ from rfl) rfl
theorem w_397 : Cond.instanceMethod ({ cls := "SmallestSpeed$Road", name := "undoLast", desc := "()V" } : Jvm.MethodName) ∈ tb := tb_t2 (show tables_1_2[116]? = some _ from rfl) rfl
theorem w_398 : Cond.selects "SmallestSpeed$Road" ({ cls := "SmallestSpeed$Road", name := "undoLast", desc := "()V" } : Jvm.MethodName) ({ cls := "SmallestSpeed$Road", name := "undoLast", desc := "()V" } : Jvm.MethodName) ∈ tb := tb_t2 (show tables_1_2[117]? = some _ from rfl) rfl
theorem w_399 : Cond.code ({ cls := "SmallestSpeed$Road", name := "undoLast", desc := "()V" } : Jvm.MethodName) prog_8_method_7_code (2 : Nat) none ∈ tb := tb_t2 (show tables_1_2[118]? = some _ from rfl) rfl
theorem w_400 : Cond.methodLink "SmallestSpeedLaw" (45 : Nat) ({ cls := "SmallestSpeed", name := "type", desc := "(I)I" } : Jvm.MethodName) ∈ tb := tb_t2 (show tables_1_2[119]? = some _ from rfl) rfl
theorem w_401 : Cond.instanceMethod ({ cls := "SmallestSpeed", name := "type", desc := "(I)I" } : Jvm.MethodName) ∈ tb := tb_t2 (show tables_1_2[120]? = some _ from rfl) rfl
theorem w_402 : Cond.selects "SmallestSpeed" ({ cls := "SmallestSpeed", name := "type", desc := "(I)I" } : Jvm.MethodName) ({ cls := "SmallestSpeed", name := "type", desc := "(I)I" } : Jvm.MethodName) ∈ tb := tb_t2 (show tables_1_2[121]? = some _ from rfl) rfl
theorem w_403 : Cond.code ({ cls := "SmallestSpeed", name := "type", desc := "(I)I" } : Jvm.MethodName) prog_1_method_9_code (2 : Nat) (some FieldType.int) ∈ tb := tb_t2 (show tables_1_2[122]? = some _ from rfl) rfl
theorem w_404 : Cond.methodLink "SmallestSpeed" (116 : Nat) ({ cls := "SmallestSpeed$RoadText", name := "append", desc := "(I)V" } : Jvm.MethodName) ∈ tb := tb_t2 (show tables_1_2[123]? = some _ from rfl) rfl
theorem w_405 : Cond.instanceMethod ({ cls := "SmallestSpeed$RoadText", name := "append", desc := "(I)V" } : Jvm.MethodName) ∈ tb := tb_t2 (show tables_1_2[124]? = some _ from rfl) rfl
theorem w_406 : Cond.selects "SmallestSpeed$RoadText" ({ cls := "SmallestSpeed$RoadText", name := "append", desc := "(I)V" } : Jvm.MethodName) ({ cls := "SmallestSpeed$RoadText", name := "append", desc := "(I)V" } : Jvm.MethodName) ∈ tb := tb_t2 (show tables_1_2[125]? = some _ from rfl) rfl
theorem w_407 : Cond.code ({ cls := "SmallestSpeed$RoadText", name := "append", desc := "(I)V" } : Jvm.MethodName) prog_9_method_2_code (2 : Nat) none ∈ tb := tb_t2 (show tables_1_2[126]? = some _ from rfl) rfl
theorem w_408 : Cond.methodLink "SmallestSpeedLaw" (49 : Nat) ({ cls := "SmallestSpeed", name := "clear", desc := "()I" } : Jvm.MethodName) ∈ tb := tb_t2 (show tables_1_2[127]? = some _ from rfl) rfl
theorem w_409 : Cond.instanceMethod ({ cls := "SmallestSpeed", name := "clear", desc := "()I" } : Jvm.MethodName) ∈ tb := tb_t2 (show tables_1_2[128]? = some _ from rfl) rfl
theorem w_410 : Cond.selects "SmallestSpeed" ({ cls := "SmallestSpeed", name := "clear", desc := "()I" } : Jvm.MethodName) ({ cls := "SmallestSpeed", name := "clear", desc := "()I" } : Jvm.MethodName) ∈ tb := tb_t2 (show tables_1_2[129]? = some _ from rfl) rfl
theorem w_411 : Cond.code ({ cls := "SmallestSpeed", name := "clear", desc := "()I" } : Jvm.MethodName) prog_1_method_10_code (2 : Nat) (some FieldType.int) ∈ tb := tb_t2 (show tables_1_2[130]? = some _ from rfl) rfl
theorem w_412 : Cond.methodLink "SmallestSpeedLaw" (53 : Nat) ({ cls := "SmallestSpeed", name := "read", desc := "()I" } : Jvm.MethodName) ∈ tb := tb_t2 (show tables_1_2[131]? = some _ from rfl) rfl
theorem w_413 : Cond.instanceMethod ({ cls := "SmallestSpeed", name := "read", desc := "()I" } : Jvm.MethodName) ∈ tb := tb_t2 (show tables_1_2[132]? = some _ from rfl) rfl
theorem w_414 : Cond.selects "SmallestSpeed" ({ cls := "SmallestSpeed", name := "read", desc := "()I" } : Jvm.MethodName) ({ cls := "SmallestSpeed", name := "read", desc := "()I" } : Jvm.MethodName) ∈ tb := tb_t2 (show tables_1_2[133]? = some _ from rfl) rfl
theorem w_415 : Cond.code ({ cls := "SmallestSpeed", name := "read", desc := "()I" } : Jvm.MethodName) prog_1_method_11_code (2 : Nat) (some FieldType.int) ∈ tb := tb_t2 (show tables_1_2[134]? = some _ from rfl) rfl
theorem w_416 : Cond.methodLink "SmallestSpeed" (120 : Nat) ({ cls := "SmallestSpeed$RoadText", name := "readInto", desc := "(LSmallestSpeed$Road;)I" } : Jvm.MethodName) ∈ tb := tb_t2 (show tables_1_2[135]? = some _ from rfl) rfl
theorem w_417 : Cond.instanceMethod ({ cls := "SmallestSpeed$RoadText", name := "readInto", desc := "(LSmallestSpeed$Road;)I" } : Jvm.MethodName) ∈ tb := tb_t2 (show tables_1_2[136]? = some _ from rfl) rfl
theorem w_418 : Cond.selects "SmallestSpeed$RoadText" ({ cls := "SmallestSpeed$RoadText", name := "readInto", desc := "(LSmallestSpeed$Road;)I" } : Jvm.MethodName) ({ cls := "SmallestSpeed$RoadText", name := "readInto", desc := "(LSmallestSpeed$Road;)I" } : Jvm.MethodName) ∈ tb := tb_t2 (show tables_1_2[137]? = some _ from rfl) rfl
theorem w_419 : Cond.code ({ cls := "SmallestSpeed$RoadText", name := "readInto", desc := "(LSmallestSpeed$Road;)I" } : Jvm.MethodName) prog_9_method_3_code (4 : Nat) (some FieldType.int) ∈ tb := tb_t2 (show tables_1_2[138]? = some _ from rfl) rfl
theorem w_420 : Cond.methodLink "SmallestSpeed$RoadText" (22 : Nat) ({ cls := "SmallestSpeed$RoadText", name := "isAtEnd", desc := "()Z" } : Jvm.MethodName) ∈ tb := tb_t2 (show tables_1_2[139]? = some _ from rfl) rfl
theorem w_421 : Cond.instanceMethod ({ cls := "SmallestSpeed$RoadText", name := "isAtEnd", desc := "()Z" } : Jvm.MethodName) ∈ tb := tb_t2 (show tables_1_2[140]? = some _ from rfl) rfl
theorem w_422 : Cond.selects "SmallestSpeed$RoadText" ({ cls := "SmallestSpeed$RoadText", name := "isAtEnd", desc := "()Z" } : Jvm.MethodName) ({ cls := "SmallestSpeed$RoadText", name := "isAtEnd", desc := "()Z" } : Jvm.MethodName) ∈ tb := tb_t2 (show tables_1_2[141]? = some _ from rfl) rfl
theorem w_423 : Cond.code ({ cls := "SmallestSpeed$RoadText", name := "isAtEnd", desc := "()Z" } : Jvm.MethodName) prog_9_method_6_code (1 : Nat) (some FieldType.boolean) ∈ tb := tb_t2 (show tables_1_2[142]? = some _ from rfl) rfl
theorem w_424 : Cond.methodLink "SmallestSpeed$RoadText" (26 : Nat) ({ cls := "SmallestSpeed$RoadText", name := "readRoadItem", desc := "(LSmallestSpeed$Road;)Z" } : Jvm.MethodName) ∈ tb := tb_t2 (show tables_1_2[143]? = some _ from rfl) rfl
theorem w_425 : Cond.instanceMethod ({ cls := "SmallestSpeed$RoadText", name := "readRoadItem", desc := "(LSmallestSpeed$Road;)Z" } : Jvm.MethodName) ∈ tb := tb_t2 (show tables_1_2[144]? = some _ from rfl) rfl
theorem w_426 : Cond.selects "SmallestSpeed$RoadText" ({ cls := "SmallestSpeed$RoadText", name := "readRoadItem", desc := "(LSmallestSpeed$Road;)Z" } : Jvm.MethodName) ({ cls := "SmallestSpeed$RoadText", name := "readRoadItem", desc := "(LSmallestSpeed$Road;)Z" } : Jvm.MethodName) ∈ tb := tb_t2 (show tables_1_2[145]? = some _ from rfl) rfl
theorem w_427 : Cond.code ({ cls := "SmallestSpeed$RoadText", name := "readRoadItem", desc := "(LSmallestSpeed$Road;)Z" } : Jvm.MethodName) prog_9_method_4_code (4 : Nat) (some FieldType.boolean) ∈ tb := tb_t2 (show tables_1_2[146]? = some _ from rfl) rfl
theorem w_429 : Cond.methodLink "SmallestSpeed$RoadText" (35 : Nat) ({ cls := "SmallestSpeed$RoadText", name := "readWord", desc := "(Ljava/lang/String;)Z" } : Jvm.MethodName) ∈ tb := tb_t2 (show tables_1_2[148]? = some _ from rfl) rfl
theorem w_430 : Cond.instanceMethod ({ cls := "SmallestSpeed$RoadText", name := "readWord", desc := "(Ljava/lang/String;)Z" } : Jvm.MethodName) ∈ tb := tb_t2 (show tables_1_2[149]? = some _ from rfl) rfl
theorem w_431 : Cond.selects "SmallestSpeed$RoadText" ({ cls := "SmallestSpeed$RoadText", name := "readWord", desc := "(Ljava/lang/String;)Z" } : Jvm.MethodName) ({ cls := "SmallestSpeed$RoadText", name := "readWord", desc := "(Ljava/lang/String;)Z" } : Jvm.MethodName) ∈ tb := tb_t2 (show tables_1_2[150]? = some _ from rfl) rfl
theorem w_432 : Cond.code ({ cls := "SmallestSpeed$RoadText", name := "readWord", desc := "(Ljava/lang/String;)Z" } : Jvm.MethodName) prog_9_method_7_code (4 : Nat) (some FieldType.boolean) ∈ tb := tb_t2 (show tables_1_2[151]? = some _ from rfl) rfl
theorem w_433 : Cond.methodLink "SmallestSpeed$RoadText" (58 : Nat) ({ cls := "SmallestSpeed$RoadText", name := "endOfRun", desc := "(II)I" } : Jvm.MethodName) ∈ tb := tb_t2 (show tables_1_2[152]? = some _ from rfl) rfl
theorem w_434 : Cond.instanceMethod ({ cls := "SmallestSpeed$RoadText", name := "endOfRun", desc := "(II)I" } : Jvm.MethodName) ∈ tb := tb_t2 (show tables_1_2[153]? = some _ from rfl) rfl
theorem w_435 : Cond.selects "SmallestSpeed$RoadText" ({ cls := "SmallestSpeed$RoadText", name := "endOfRun", desc := "(II)I" } : Jvm.MethodName) ({ cls := "SmallestSpeed$RoadText", name := "endOfRun", desc := "(II)I" } : Jvm.MethodName) ∈ tb := tb_t2 (show tables_1_2[154]? = some _ from rfl) rfl
theorem w_436 : Cond.code ({ cls := "SmallestSpeed$RoadText", name := "endOfRun", desc := "(II)I" } : Jvm.MethodName) prog_9_method_10_code (4 : Nat) (some FieldType.int) ∈ tb := tb_t2 (show tables_1_2[155]? = some _ from rfl) rfl
theorem w_437 : Cond.methodLink "SmallestSpeed$RoadText" (61 : Nat) ({ cls := "java/lang/String", name := "length", desc := "()I" } : Jvm.MethodName) ∈ tb := tb_t2 (show tables_1_2[156]? = some _ from rfl) rfl
theorem w_438 : Cond.instanceMethod ({ cls := "java/lang/String", name := "length", desc := "()I" } : Jvm.MethodName) ∈ tb := tb_t2 (show tables_1_2[157]? = some _ from rfl) rfl
theorem w_439 : Cond.selects "java/lang/String" ({ cls := "java/lang/String", name := "length", desc := "()I" } : Jvm.MethodName) ({ cls := "java/lang/String", name := "length", desc := "()I" } : Jvm.MethodName) ∈ tb := tb_t2 (show tables_1_2[158]? = some _ from rfl) rfl
theorem w_440 : Cond.code ({ cls := "java/lang/String", name := "length", desc := "()I" } : Jvm.MethodName) prog_18_method_54_code (1 : Nat) (some FieldType.int) ∈ tb := tb_t2 (show tables_1_2[159]? = some _ from rfl) rfl
theorem w_441 : Cond.methodLink "java/lang/String" (335 : Nat) ({ cls := "java/lang/String", name := "coder", desc := "()B" } : Jvm.MethodName) ∈ tb := tb_t2 (show tables_1_2[160]? = some _ from rfl) rfl
theorem w_442 : Cond.instanceMethod ({ cls := "java/lang/String", name := "coder", desc := "()B" } : Jvm.MethodName) ∈ tb := tb_t2 (show tables_1_2[161]? = some _ from rfl) rfl
theorem w_443 : Cond.selects "java/lang/String" ({ cls := "java/lang/String", name := "coder", desc := "()B" } : Jvm.MethodName) ({ cls := "java/lang/String", name := "coder", desc := "()B" } : Jvm.MethodName) ∈ tb := tb_t2 (show tables_1_2[162]? = some _ from rfl) rfl
theorem w_444 : Cond.code ({ cls := "java/lang/String", name := "coder", desc := "()B" } : Jvm.MethodName) prog_18_method_152_code (1 : Nat) (some FieldType.byte) ∈ tb := tb_t2 (show tables_1_2[163]? = some _ from rfl) rfl
theorem w_447 : Cond.methodLink "SmallestSpeed$RoadText" (66 : Nat) ({ cls := "java/lang/String", name := "charAt", desc := "(I)C" } : Jvm.MethodName) ∈ tb := tb_t2 (show tables_1_2[166]? = some _ from rfl) rfl
theorem w_448 : Cond.instanceMethod ({ cls := "java/lang/String", name := "charAt", desc := "(I)C" } : Jvm.MethodName) ∈ tb := tb_t2 (show tables_1_2[167]? = some _ from rfl) rfl
theorem w_449 : Cond.selects "java/lang/String" ({ cls := "java/lang/String", name := "charAt", desc := "(I)C" } : Jvm.MethodName) ({ cls := "java/lang/String", name := "charAt", desc := "(I)C" } : Jvm.MethodName) ∈ tb := tb_t2 (show tables_1_2[168]? = some _ from rfl) rfl
theorem w_450 : Cond.code ({ cls := "java/lang/String", name := "charAt", desc := "(I)C" } : Jvm.MethodName) prog_18_method_56_code (2 : Nat) (some FieldType.char) ∈ tb := tb_t2 (show tables_1_2[169]? = some _ from rfl) rfl
theorem w_451 : Cond.methodLink "java/lang/String" (492 : Nat) ({ cls := "java/lang/String", name := "isLatin1", desc := "()Z" } : Jvm.MethodName) ∈ tb := tb_t2 (show tables_1_2[170]? = some _ from rfl) rfl
theorem w_452 : Cond.instanceMethod ({ cls := "java/lang/String", name := "isLatin1", desc := "()Z" } : Jvm.MethodName) ∈ tb := tb_t2 (show tables_1_2[171]? = some _ from rfl) rfl
theorem w_453 : Cond.selects "java/lang/String" ({ cls := "java/lang/String", name := "isLatin1", desc := "()Z" } : Jvm.MethodName) ({ cls := "java/lang/String", name := "isLatin1", desc := "()Z" } : Jvm.MethodName) ∈ tb := tb_t2 (show tables_1_2[172]? = some _ from rfl) rfl
theorem w_454 : Cond.code ({ cls := "java/lang/String", name := "isLatin1", desc := "()Z" } : Jvm.MethodName) prog_18_method_154_code (1 : Nat) (some FieldType.boolean) ∈ tb := tb_t2 (show tables_1_2[173]? = some _ from rfl) rfl
theorem w_455 : Cond.methodLink "java/lang/String" (495 : Nat) ({ cls := "java/lang/StringLatin1", name := "charAt", desc := "([BI)C" } : Jvm.MethodName) ∈ tb := tb_t2 (show tables_1_2[174]? = some _ from rfl) rfl
theorem w_456 : Cond.static ({ cls := "java/lang/StringLatin1", name := "charAt", desc := "([BI)C" } : Jvm.MethodName) ∈ tb := tb_t2 (show tables_1_2[175]? = some _ from rfl) rfl
theorem w_457 : Cond.code ({ cls := "java/lang/StringLatin1", name := "charAt", desc := "([BI)C" } : Jvm.MethodName) prog_19_method_2_code (2 : Nat) (some FieldType.char) ∈ tb := tb_t2 (show tables_1_2[176]? = some _ from rfl) rfl
theorem w_458 : Cond.methodLink "java/lang/StringLatin1" (9 : Nat) ({ cls := "java/lang/String", name := "checkIndex", desc := "(II)V" } : Jvm.MethodName) ∈ tb := tb_t2 (show tables_1_2[177]? = some _ from rfl) rfl
theorem w_459 : Cond.static ({ cls := "java/lang/String", name := "checkIndex", desc := "(II)V" } : Jvm.MethodName) ∈ tb := tb_t2 (show tables_1_2[178]? = some _ from rfl) rfl
theorem w_460 : Cond.code ({ cls := "java/lang/String", name := "checkIndex", desc := "(II)V" } : Jvm.MethodName) prog_18_method_155_code (2 : Nat) none ∈ tb := tb_t2 (show tables_1_2[179]? = some _ from rfl) rfl
theorem w_485 : Cond.methodLink "SmallestSpeed$RoadText" (39 : Nat) ({ cls := "SmallestSpeed$RoadText", name := "readNumber", desc := "(II)I" } : Jvm.MethodName) ∈ tb := tb_t2 (show tables_1_2[204]? = some _ from rfl) rfl
theorem w_486 : Cond.instanceMethod ({ cls := "SmallestSpeed$RoadText", name := "readNumber", desc := "(II)I" } : Jvm.MethodName) ∈ tb := tb_t2 (show tables_1_2[205]? = some _ from rfl) rfl
theorem w_487 : Cond.selects "SmallestSpeed$RoadText" ({ cls := "SmallestSpeed$RoadText", name := "readNumber", desc := "(II)I" } : Jvm.MethodName) ({ cls := "SmallestSpeed$RoadText", name := "readNumber", desc := "(II)I" } : Jvm.MethodName) ∈ tb := tb_t2 (show tables_1_2[206]? = some _ from rfl) rfl
theorem w_488 : Cond.code ({ cls := "SmallestSpeed$RoadText", name := "readNumber", desc := "(II)I" } : Jvm.MethodName) prog_9_method_8_code (6 : Nat) (some FieldType.int) ∈ tb := tb_t2 (show tables_1_2[207]? = some _ from rfl) rfl
theorem w_489 : Cond.methodLink "SmallestSpeed$RoadText" (43 : Nat) ({ cls := "SmallestSpeed$RoadText", name := "readSemicolon", desc := "()Z" } : Jvm.MethodName) ∈ tb := tb_t2 (show tables_1_2[208]? = some _ from rfl) rfl
theorem w_490 : Cond.instanceMethod ({ cls := "SmallestSpeed$RoadText", name := "readSemicolon", desc := "()Z" } : Jvm.MethodName) ∈ tb := tb_t2 (show tables_1_2[209]? = some _ from rfl) rfl
theorem w_491 : Cond.selects "SmallestSpeed$RoadText" ({ cls := "SmallestSpeed$RoadText", name := "readSemicolon", desc := "()Z" } : Jvm.MethodName) ({ cls := "SmallestSpeed$RoadText", name := "readSemicolon", desc := "()Z" } : Jvm.MethodName) ∈ tb := tb_t2 (show tables_1_2[210]? = some _ from rfl) rfl
theorem w_492 : Cond.code ({ cls := "SmallestSpeed$RoadText", name := "readSemicolon", desc := "()Z" } : Jvm.MethodName) prog_9_method_9_code (1 : Nat) (some FieldType.boolean) ∈ tb := tb_t2 (show tables_1_2[211]? = some _ from rfl) rfl
theorem w_493 : Cond.methodLink "SmallestSpeed$RoadText" (46 : Nat) ({ cls := "SmallestSpeed$Road", name := "begin", desc := "(II)V" } : Jvm.MethodName) ∈ tb := tb_t2 (show tables_1_2[212]? = some _ from rfl) rfl
theorem w_494 : Cond.methodLink "SmallestSpeed$RoadText" (30 : Nat) ({ cls := "SmallestSpeed$RoadText", name := "readChildItem", desc := "(LSmallestSpeed$Road;)Z" } : Jvm.MethodName) ∈ tb := tb_t2 (show tables_1_2[213]? = some _ from rfl) rfl
theorem w_495 : Cond.instanceMethod ({ cls := "SmallestSpeed$RoadText", name := "readChildItem", desc := "(LSmallestSpeed$Road;)Z" } : Jvm.MethodName) ∈ tb := tb_t2 (show tables_1_2[214]? = some _ from rfl) rfl
theorem w_496 : Cond.selects "SmallestSpeed$RoadText" ({ cls := "SmallestSpeed$RoadText", name := "readChildItem", desc := "(LSmallestSpeed$Road;)Z" } : Jvm.MethodName) ({ cls := "SmallestSpeed$RoadText", name := "readChildItem", desc := "(LSmallestSpeed$Road;)Z" } : Jvm.MethodName) ∈ tb := tb_t2 (show tables_1_2[215]? = some _ from rfl) rfl
theorem w_497 : Cond.code ({ cls := "SmallestSpeed$RoadText", name := "readChildItem", desc := "(LSmallestSpeed$Road;)Z" } : Jvm.MethodName) prog_9_method_5_code (7 : Nat) (some FieldType.boolean) ∈ tb := tb_t2 (show tables_1_2[216]? = some _ from rfl) rfl
theorem w_499 : Cond.methodLink "SmallestSpeed$RoadText" (54 : Nat) ({ cls := "SmallestSpeed$Road", name := "addChild", desc := "(IIIII)V" } : Jvm.MethodName) ∈ tb := tb_t2 (show tables_1_2[218]? = some _ from rfl) rfl
theorem w_500 : Cond.methodLink "SmallestSpeed" (124 : Nat) ({ cls := "SmallestSpeed$Road", name := "copyFrom", desc := "(LSmallestSpeed$Road;)V" } : Jvm.MethodName) ∈ tb := tb_t2 (show tables_1_2[219]? = some _ from rfl) rfl
theorem w_501 : Cond.instanceMethod ({ cls := "SmallestSpeed$Road", name := "copyFrom", desc := "(LSmallestSpeed$Road;)V" } : Jvm.MethodName) ∈ tb := tb_t2 (show tables_1_2[220]? = some _ from rfl) rfl
theorem w_502 : Cond.selects "SmallestSpeed$Road" ({ cls := "SmallestSpeed$Road", name := "copyFrom", desc := "(LSmallestSpeed$Road;)V" } : Jvm.MethodName) ({ cls := "SmallestSpeed$Road", name := "copyFrom", desc := "(LSmallestSpeed$Road;)V" } : Jvm.MethodName) ∈ tb := tb_t2 (show tables_1_2[221]? = some _ from rfl) rfl
theorem w_503 : Cond.code ({ cls := "SmallestSpeed$Road", name := "copyFrom", desc := "(LSmallestSpeed$Road;)V" } : Jvm.MethodName) prog_8_method_8_code (2 : Nat) none ∈ tb := tb_t2 (show tables_1_2[222]? = some _ from rfl) rfl
theorem w_505 : Cond.methodLink "SmallestSpeedLaw" (57 : Nat) ({ cls := "SmallestSpeed", name := "of", desc := "(III)I" } : Jvm.MethodName) ∈ tb := tb_t2 (show tables_1_2[224]? = some _ from rfl) rfl
theorem w_506 : Cond.instanceMethod ({ cls := "SmallestSpeed", name := "of", desc := "(III)I" } : Jvm.MethodName) ∈ tb := tb_t2 (show tables_1_2[225]? = some _ from rfl) rfl
theorem w_507 : Cond.selects "SmallestSpeed" ({ cls := "SmallestSpeed", name := "of", desc := "(III)I" } : Jvm.MethodName) ({ cls := "SmallestSpeed", name := "of", desc := "(III)I" } : Jvm.MethodName) ∈ tb := tb_t2 (show tables_1_2[226]? = some _ from rfl) rfl
theorem w_508 : Cond.code ({ cls := "SmallestSpeed", name := "of", desc := "(III)I" } : Jvm.MethodName) prog_1_method_12_code (4 : Nat) (some FieldType.int) ∈ tb := tb_t2 (show tables_1_2[227]? = some _ from rfl) rfl
theorem w_509 : Cond.methodLink "SmallestSpeed" (128 : Nat) ({ cls := "SmallestSpeed", name := "isMinute", desc := "(I)Z" } : Jvm.MethodName) ∈ tb := tb_t2 (show tables_1_2[228]? = some _ from rfl) rfl
theorem w_510 : Cond.static ({ cls := "SmallestSpeed", name := "isMinute", desc := "(I)Z" } : Jvm.MethodName) ∈ tb := tb_t2 (show tables_1_2[229]? = some _ from rfl) rfl
theorem w_511 : Cond.code ({ cls := "SmallestSpeed", name := "isMinute", desc := "(I)Z" } : Jvm.MethodName) prog_1_method_43_code (1 : Nat) (some FieldType.boolean) ∈ tb := tb_t2 (show tables_1_2[230]? = some _ from rfl) rfl
theorem w_512 : Cond.methodLink "SmallestSpeed" (131 : Nat) ({ cls := "SmallestSpeed$Limits", name := "see", desc := "(LSmallestSpeed$Road;I)V" } : Jvm.MethodName) ∈ tb := tb_t2 (show tables_1_2[231]? = some _ from rfl) rfl
theorem w_513 : Cond.instanceMethod ({ cls := "SmallestSpeed$Limits", name := "see", desc := "(LSmallestSpeed$Road;I)V" } : Jvm.MethodName) ∈ tb := tb_t2 (show tables_1_2[232]? = some _ from rfl) rfl
theorem w_514 : Cond.selects "SmallestSpeed$Limits" ({ cls := "SmallestSpeed$Limits", name := "see", desc := "(LSmallestSpeed$Road;I)V" } : Jvm.MethodName) ({ cls := "SmallestSpeed$Limits", name := "see", desc := "(LSmallestSpeed$Road;I)V" } : Jvm.MethodName) ∈ tb := tb_t2 (show tables_1_2[233]? = some _ from rfl) rfl
theorem w_515 : Cond.code ({ cls := "SmallestSpeed$Limits", name := "see", desc := "(LSmallestSpeed$Road;I)V" } : Jvm.MethodName) prog_6_method_3_code (5 : Nat) none ∈ tb := tb_t2 (show tables_1_2[234]? = some _ from rfl) rfl
theorem w_516 : Cond.methodLink "SmallestSpeed$Limits" (64 : Nat) ({ cls := "SmallestSpeed$Limits", name := "kindOf", desc := "(I)LSmallestSpeed$Walker;" } : Jvm.MethodName) ∈ tb := tb_t2 (show tables_1_2[235]? = some _ from rfl) rfl
theorem w_517 : Cond.instanceMethod ({ cls := "SmallestSpeed$Limits", name := "kindOf", desc := "(I)LSmallestSpeed$Walker;" } : Jvm.MethodName) ∈ tb := tb_t2 (show tables_1_2[236]? = some _ from rfl) rfl
theorem w_518 : Cond.selects "SmallestSpeed$Limits" ({ cls := "SmallestSpeed$Limits", name := "kindOf", desc := "(I)LSmallestSpeed$Walker;" } : Jvm.MethodName) ({ cls := "SmallestSpeed$Limits", name := "kindOf", desc := "(I)LSmallestSpeed$Walker;" } : Jvm.MethodName) ∈ tb := tb_t2 (show tables_1_2[237]? = some _ from rfl) rfl
theorem w_519 : Cond.code ({ cls := "SmallestSpeed$Limits", name := "kindOf", desc := "(I)LSmallestSpeed$Walker;" } : Jvm.MethodName) prog_6_method_2_code (2 : Nat) (Option.some (FieldType.object "SmallestSpeed$Walker")) ∈ tb := tb_t2 (show tables_1_2[238]? = some _ from rfl) rfl
theorem w_520 : Cond.methodLink "SmallestSpeed$Limits" (74 : Nat) ({ cls := "SmallestSpeed$Walker", name := "cellIn", desc := "(III)I" } : Jvm.MethodName) ∈ tb := tb_t2 (show tables_1_2[239]? = some _ from rfl) rfl
theorem w_521 : Cond.instanceMethod ({ cls := "SmallestSpeed$Walker", name := "cellIn", desc := "(III)I" } : Jvm.MethodName) ∈ tb := tb_t3 (show tables_1_3[0]? = some _ from rfl) rfl
theorem w_522 : Cond.selects "SmallestSpeed$Walker" ({ cls := "SmallestSpeed$Walker", name := "cellIn", desc := "(III)I" } : Jvm.MethodName) ({ cls := "SmallestSpeed$Walker", name := "cellIn", desc := "(III)I" } : Jvm.MethodName) ∈ tb := tb_t3 (show tables_1_3[1]? = some _ from rfl) rfl
theorem w_523 : Cond.sameMethod "SmallestSpeed$Walker" "SmallestSpeed$Walker" "cellIn" "(III)I" ∈ tb := tb_t3 (show tables_1_3[2]? = some _ from rfl) rfl
theorem w_524 : Cond.selects "SmallestSpeed$Doll" ({ cls := "SmallestSpeed$Walker", name := "cellIn", desc := "(III)I" } : Jvm.MethodName) ({ cls := "SmallestSpeed$Player", name := "cellIn", desc := "(III)I" } : Jvm.MethodName) ∈ tb := tb_t3 (show tables_1_3[3]? = some _ from rfl) rfl
theorem w_525 : Cond.instanceMethod ({ cls := "SmallestSpeed$Player", name := "cellIn", desc := "(III)I" } : Jvm.MethodName) ∈ tb := tb_t3 (show tables_1_3[4]? = some _ from rfl) rfl
theorem w_526 : Cond.code ({ cls := "SmallestSpeed$Player", name := "cellIn", desc := "(III)I" } : Jvm.MethodName) prog_7_method_2_code (4 : Nat) (some FieldType.int) ∈ tb := tb_t3 (show tables_1_3[5]? = some _ from rfl) rfl
theorem w_527 : Cond.methodLink "SmallestSpeed$Player" (9 : Nat) ({ cls := "java/lang/Math", name := "min", desc := "(II)I" } : Jvm.MethodName) ∈ tb := tb_t3 (show tables_1_3[6]? = some _ from rfl) rfl
theorem w_528 : Cond.static ({ cls := "java/lang/Math", name := "min", desc := "(II)I" } : Jvm.MethodName) ∈ tb := tb_t3 (show tables_1_3[7]? = some _ from rfl) rfl
theorem w_529 : Cond.code ({ cls := "java/lang/Math", name := "min", desc := "(II)I" } : Jvm.MethodName) prog_17_method_69_code (2 : Nat) (some FieldType.int) ∈ tb := tb_t3 (show tables_1_3[8]? = some _ from rfl) rfl
theorem w_530 : Cond.selects "SmallestSpeed$Grows" ({ cls := "SmallestSpeed$Walker", name := "cellIn", desc := "(III)I" } : Jvm.MethodName) ({ cls := "SmallestSpeed$Walker", name := "cellIn", desc := "(III)I" } : Jvm.MethodName) ∈ tb := tb_t3 (show tables_1_3[9]? = some _ from rfl) rfl
theorem w_531 : Cond.selects "SmallestSpeed$Held" ({ cls := "SmallestSpeed$Walker", name := "cellIn", desc := "(III)I" } : Jvm.MethodName) ({ cls := "SmallestSpeed$Walker", name := "cellIn", desc := "(III)I" } : Jvm.MethodName) ∈ tb := tb_t3 (show tables_1_3[10]? = some _ from rfl) rfl
theorem w_532 : Cond.selects "SmallestSpeed$Player" ({ cls := "SmallestSpeed$Walker", name := "cellIn", desc := "(III)I" } : Jvm.MethodName) ({ cls := "SmallestSpeed$Player", name := "cellIn", desc := "(III)I" } : Jvm.MethodName) ∈ tb := tb_t3 (show tables_1_3[11]? = some _ from rfl) rfl
theorem w_533 : Cond.selects "SmallestSpeed$Twin" ({ cls := "SmallestSpeed$Walker", name := "cellIn", desc := "(III)I" } : Jvm.MethodName) ({ cls := "SmallestSpeed$Walker", name := "cellIn", desc := "(III)I" } : Jvm.MethodName) ∈ tb := tb_t3 (show tables_1_3[12]? = some _ from rfl) rfl
theorem w_534 : Cond.code ({ cls := "SmallestSpeed$Walker", name := "cellIn", desc := "(III)I" } : Jvm.MethodName) prog_12_method_2_code (4 : Nat) (some FieldType.int) ∈ tb := tb_t3 (show tables_1_3[13]? = some _ from rfl) rfl
theorem w_535 : Cond.methodLink "SmallestSpeed$Walker" (9 : Nat) ({ cls := "java/lang/Math", name := "min", desc := "(II)I" } : Jvm.MethodName) ∈ tb := tb_t3 (show tables_1_3[14]? = some _ from rfl) rfl
theorem w_536 : Cond.methodLink "SmallestSpeed$Limits" (84 : Nat) ({ cls := "SmallestSpeed$Walker", name := "highIn", desc := "(II)I" } : Jvm.MethodName) ∈ tb := tb_t3 (show tables_1_3[15]? = some _ from rfl) rfl
theorem w_537 : Cond.instanceMethod ({ cls := "SmallestSpeed$Walker", name := "highIn", desc := "(II)I" } : Jvm.MethodName) ∈ tb := tb_t3 (show tables_1_3[16]? = some _ from rfl) rfl
theorem w_538 : Cond.selects "SmallestSpeed$Walker" ({ cls := "SmallestSpeed$Walker", name := "highIn", desc := "(II)I" } : Jvm.MethodName) ({ cls := "SmallestSpeed$Walker", name := "highIn", desc := "(II)I" } : Jvm.MethodName) ∈ tb := tb_t3 (show tables_1_3[17]? = some _ from rfl) rfl
theorem w_539 : Cond.sameMethod "SmallestSpeed$Walker" "SmallestSpeed$Walker" "highIn" "(II)I" ∈ tb := tb_t3 (show tables_1_3[18]? = some _ from rfl) rfl
theorem w_540 : Cond.selects "SmallestSpeed$Doll" ({ cls := "SmallestSpeed$Walker", name := "highIn", desc := "(II)I" } : Jvm.MethodName) ({ cls := "SmallestSpeed$Doll", name := "highIn", desc := "(II)I" } : Jvm.MethodName) ∈ tb := tb_t3 (show tables_1_3[19]? = some _ from rfl) rfl
theorem w_541 : Cond.instanceMethod ({ cls := "SmallestSpeed$Doll", name := "highIn", desc := "(II)I" } : Jvm.MethodName) ∈ tb := tb_t3 (show tables_1_3[20]? = some _ from rfl) rfl
theorem w_542 : Cond.code ({ cls := "SmallestSpeed$Doll", name := "highIn", desc := "(II)I" } : Jvm.MethodName) prog_2_method_2_code (3 : Nat) (some FieldType.int) ∈ tb := tb_t3 (show tables_1_3[21]? = some _ from rfl) rfl
theorem w_543 : Cond.methodLink "SmallestSpeed$Doll" (7 : Nat) ({ cls := "SmallestSpeed$Player", name := "highIn", desc := "(II)I" } : Jvm.MethodName) ∈ tb := tb_t3 (show tables_1_3[22]? = some _ from rfl) rfl
theorem w_544 : Cond.sameMethod "SmallestSpeed$Player" "SmallestSpeed$Walker" "highIn" "(II)I" ∈ tb := tb_t3 (show tables_1_3[23]? = some _ from rfl) rfl
theorem w_546 : Cond.selects "SmallestSpeed$Grows" ({ cls := "SmallestSpeed$Walker", name := "highIn", desc := "(II)I" } : Jvm.MethodName) ({ cls := "SmallestSpeed$Grows", name := "highIn", desc := "(II)I" } : Jvm.MethodName) ∈ tb := tb_t3 (show tables_1_3[25]? = some _ from rfl) rfl
theorem w_547 : Cond.instanceMethod ({ cls := "SmallestSpeed$Grows", name := "highIn", desc := "(II)I" } : Jvm.MethodName) ∈ tb := tb_t3 (show tables_1_3[26]? = some _ from rfl) rfl
theorem w_548 : Cond.code ({ cls := "SmallestSpeed$Grows", name := "highIn", desc := "(II)I" } : Jvm.MethodName) prog_4_method_2_code (3 : Nat) (some FieldType.int) ∈ tb := tb_t3 (show tables_1_3[27]? = some _ from rfl) rfl
theorem w_549 : Cond.methodLink "SmallestSpeed$Grows" (9 : Nat) ({ cls := "SmallestSpeed$Walker", name := "highIn", desc := "(II)I" } : Jvm.MethodName) ∈ tb := tb_t3 (show tables_1_3[28]? = some _ from rfl) rfl
theorem w_550 : Cond.methodLink "SmallestSpeed$Grows" (13 : Nat) ({ cls := "java/lang/Math", name := "min", desc := "(II)I" } : Jvm.MethodName) ∈ tb := tb_t3 (show tables_1_3[29]? = some _ from rfl) rfl
theorem w_551 : Cond.selects "SmallestSpeed$Held" ({ cls := "SmallestSpeed$Walker", name := "highIn", desc := "(II)I" } : Jvm.MethodName) ({ cls := "SmallestSpeed$Held", name := "highIn", desc := "(II)I" } : Jvm.MethodName) ∈ tb := tb_t3 (show tables_1_3[30]? = some _ from rfl) rfl
theorem w_552 : Cond.instanceMethod ({ cls := "SmallestSpeed$Held", name := "highIn", desc := "(II)I" } : Jvm.MethodName) ∈ tb := tb_t3 (show tables_1_3[31]? = some _ from rfl) rfl
theorem w_553 : Cond.code ({ cls := "SmallestSpeed$Held", name := "highIn", desc := "(II)I" } : Jvm.MethodName) prog_5_method_2_code (3 : Nat) (some FieldType.int) ∈ tb := tb_t3 (show tables_1_3[32]? = some _ from rfl) rfl
theorem w_554 : Cond.methodLink "SmallestSpeed$Held" (9 : Nat) ({ cls := "SmallestSpeed$Walker", name := "highIn", desc := "(II)I" } : Jvm.MethodName) ∈ tb := tb_t3 (show tables_1_3[33]? = some _ from rfl) rfl
theorem w_555 : Cond.methodLink "SmallestSpeed$Held" (13 : Nat) ({ cls := "java/lang/Math", name := "min", desc := "(II)I" } : Jvm.MethodName) ∈ tb := tb_t3 (show tables_1_3[34]? = some _ from rfl) rfl
theorem w_556 : Cond.selects "SmallestSpeed$Player" ({ cls := "SmallestSpeed$Walker", name := "highIn", desc := "(II)I" } : Jvm.MethodName) ({ cls := "SmallestSpeed$Walker", name := "highIn", desc := "(II)I" } : Jvm.MethodName) ∈ tb := tb_t3 (show tables_1_3[35]? = some _ from rfl) rfl
theorem w_557 : Cond.selects "SmallestSpeed$Twin" ({ cls := "SmallestSpeed$Walker", name := "highIn", desc := "(II)I" } : Jvm.MethodName) ({ cls := "SmallestSpeed$Twin", name := "highIn", desc := "(II)I" } : Jvm.MethodName) ∈ tb := tb_t3 (show tables_1_3[36]? = some _ from rfl) rfl
theorem w_558 : Cond.instanceMethod ({ cls := "SmallestSpeed$Twin", name := "highIn", desc := "(II)I" } : Jvm.MethodName) ∈ tb := tb_t3 (show tables_1_3[37]? = some _ from rfl) rfl
theorem w_559 : Cond.code ({ cls := "SmallestSpeed$Twin", name := "highIn", desc := "(II)I" } : Jvm.MethodName) prog_11_method_2_code (3 : Nat) (some FieldType.int) ∈ tb := tb_t3 (show tables_1_3[38]? = some _ from rfl) rfl
theorem w_560 : Cond.methodLink "SmallestSpeed$Twin" (7 : Nat) ({ cls := "SmallestSpeed$Held", name := "highIn", desc := "(II)I" } : Jvm.MethodName) ∈ tb := tb_t3 (show tables_1_3[39]? = some _ from rfl) rfl
theorem w_561 : Cond.methodLink "SmallestSpeed$Twin" (11 : Nat) ({ cls := "java/lang/Math", name := "max", desc := "(II)I" } : Jvm.MethodName) ∈ tb := tb_t3 (show tables_1_3[40]? = some _ from rfl) rfl
theorem w_562 : Cond.static ({ cls := "java/lang/Math", name := "max", desc := "(II)I" } : Jvm.MethodName) ∈ tb := tb_t3 (show tables_1_3[41]? = some _ from rfl) rfl
theorem w_563 : Cond.code ({ cls := "java/lang/Math", name := "max", desc := "(II)I" } : Jvm.MethodName) prog_17_method_65_code (2 : Nat) (some FieldType.int) ∈ tb := tb_t3 (show tables_1_3[42]? = some _ from rfl) rfl
theorem w_564 : Cond.code ({ cls := "SmallestSpeed$Walker", name := "highIn", desc := "(II)I" } : Jvm.MethodName) prog_12_method_3_code (3 : Nat) (some FieldType.int) ∈ tb := tb_t3 (show tables_1_3[43]? = some _ from rfl) rfl
theorem w_565 : Cond.methodLink "SmallestSpeedLaw" (62 : Nat) ({ cls := "SmallestSpeed", name := "limit", desc := "(III)I" } : Jvm.MethodName) ∈ tb := tb_t3 (show tables_1_3[44]? = some _ from rfl) rfl
theorem w_566 : Cond.instanceMethod ({ cls := "SmallestSpeed", name := "limit", desc := "(III)I" } : Jvm.MethodName) ∈ tb := tb_t3 (show tables_1_3[45]? = some _ from rfl) rfl
theorem w_567 : Cond.selects "SmallestSpeed" ({ cls := "SmallestSpeed", name := "limit", desc := "(III)I" } : Jvm.MethodName) ({ cls := "SmallestSpeed", name := "limit", desc := "(III)I" } : Jvm.MethodName) ∈ tb := tb_t3 (show tables_1_3[46]? = some _ from rfl) rfl
theorem w_568 : Cond.code ({ cls := "SmallestSpeed", name := "limit", desc := "(III)I" } : Jvm.MethodName) prog_1_method_13_code (4 : Nat) (some FieldType.int) ∈ tb := tb_t3 (show tables_1_3[47]? = some _ from rfl) rfl
theorem w_569 : Cond.methodLink "SmallestSpeed" (150 : Nat) ({ cls := "SmallestSpeed", name := "isZeroOrOne", desc := "(I)Z" } : Jvm.MethodName) ∈ tb := tb_t3 (show tables_1_3[48]? = some _ from rfl) rfl
theorem w_570 : Cond.static ({ cls := "SmallestSpeed", name := "isZeroOrOne", desc := "(I)Z" } : Jvm.MethodName) ∈ tb := tb_t3 (show tables_1_3[49]? = some _ from rfl) rfl
theorem w_571 : Cond.code ({ cls := "SmallestSpeed", name := "isZeroOrOne", desc := "(I)Z" } : Jvm.MethodName) prog_1_method_44_code (1 : Nat) (some FieldType.boolean) ∈ tb := tb_t3 (show tables_1_3[50]? = some _ from rfl) rfl
theorem w_572 : Cond.methodLink "SmallestSpeed" (153 : Nat) ({ cls := "SmallestSpeed$Road", name := "everyChild", desc := "()I" } : Jvm.MethodName) ∈ tb := tb_t3 (show tables_1_3[51]? = some _ from rfl) rfl
theorem w_573 : Cond.instanceMethod ({ cls := "SmallestSpeed$Road", name := "everyChild", desc := "()I" } : Jvm.MethodName) ∈ tb := tb_t3 (show tables_1_3[52]? = some _ from rfl) rfl
theorem w_574 : Cond.selects "SmallestSpeed$Road" ({ cls := "SmallestSpeed$Road", name := "everyChild", desc := "()I" } : Jvm.MethodName) ({ cls := "SmallestSpeed$Road", name := "everyChild", desc := "()I" } : Jvm.MethodName) ∈ tb := tb_t3 (show tables_1_3[53]? = some _ from rfl) rfl
theorem w_575 : Cond.code ({ cls := "SmallestSpeed$Road", name := "everyChild", desc := "()I" } : Jvm.MethodName) prog_8_method_9_code (1 : Nat) (some FieldType.int) ∈ tb := tb_t3 (show tables_1_3[54]? = some _ from rfl) rfl
theorem w_576 : Cond.methodLink "SmallestSpeed" (156 : Nat) ({ cls := "SmallestSpeed$Limits", name := "limitIn", desc := "(LSmallestSpeed$Road;II)I" } : Jvm.MethodName) ∈ tb := tb_t3 (show tables_1_3[55]? = some _ from rfl) rfl
theorem w_577 : Cond.instanceMethod ({ cls := "SmallestSpeed$Limits", name := "limitIn", desc := "(LSmallestSpeed$Road;II)I" } : Jvm.MethodName) ∈ tb := tb_t3 (show tables_1_3[56]? = some _ from rfl) rfl
theorem w_578 : Cond.selects "SmallestSpeed$Limits" ({ cls := "SmallestSpeed$Limits", name := "limitIn", desc := "(LSmallestSpeed$Road;II)I" } : Jvm.MethodName) ({ cls := "SmallestSpeed$Limits", name := "limitIn", desc := "(LSmallestSpeed$Road;II)I" } : Jvm.MethodName) ∈ tb := tb_t3 (show tables_1_3[57]? = some _ from rfl) rfl
theorem w_579 : Cond.code ({ cls := "SmallestSpeed$Limits", name := "limitIn", desc := "(LSmallestSpeed$Road;II)I" } : Jvm.MethodName) prog_6_method_4_code (6 : Nat) (some FieldType.int) ∈ tb := tb_t3 (show tables_1_3[58]? = some _ from rfl) rfl
theorem w_580 : Cond.methodLink "SmallestSpeed$Limits" (91 : Nat) ({ cls := "SmallestSpeed$Limits", name := "lowestIn", desc := "(LSmallestSpeed$Road;II)I" } : Jvm.MethodName) ∈ tb := tb_t3 (show tables_1_3[59]? = some _ from rfl) rfl
theorem w_581 : Cond.instanceMethod ({ cls := "SmallestSpeed$Limits", name := "lowestIn", desc := "(LSmallestSpeed$Road;II)I" } : Jvm.MethodName) ∈ tb := tb_t3 (show tables_1_3[60]? = some _ from rfl) rfl
theorem w_582 : Cond.selects "SmallestSpeed$Limits" ({ cls := "SmallestSpeed$Limits", name := "lowestIn", desc := "(LSmallestSpeed$Road;II)I" } : Jvm.MethodName) ({ cls := "SmallestSpeed$Limits", name := "lowestIn", desc := "(LSmallestSpeed$Road;II)I" } : Jvm.MethodName) ∈ tb := tb_t3 (show tables_1_3[61]? = some _ from rfl) rfl
theorem w_583 : Cond.code ({ cls := "SmallestSpeed$Limits", name := "lowestIn", desc := "(LSmallestSpeed$Road;II)I" } : Jvm.MethodName) prog_6_method_8_code (6 : Nat) (some FieldType.int) ∈ tb := tb_t3 (show tables_1_3[62]? = some _ from rfl) rfl
theorem w_584 : Cond.methodLink "SmallestSpeed$Limits" (108 : Nat) ({ cls := "SmallestSpeed$Limits", name := "isSeen", desc := "(LSmallestSpeed$Road;III)Z" } : Jvm.MethodName) ∈ tb := tb_t3 (show tables_1_3[63]? = some _ from rfl) rfl
theorem w_585 : Cond.instanceMethod ({ cls := "SmallestSpeed$Limits", name := "isSeen", desc := "(LSmallestSpeed$Road;III)Z" } : Jvm.MethodName) ∈ tb := tb_t3 (show tables_1_3[64]? = some _ from rfl) rfl
theorem w_586 : Cond.selects "SmallestSpeed$Limits" ({ cls := "SmallestSpeed$Limits", name := "isSeen", desc := "(LSmallestSpeed$Road;III)Z" } : Jvm.MethodName) ({ cls := "SmallestSpeed$Limits", name := "isSeen", desc := "(LSmallestSpeed$Road;III)Z" } : Jvm.MethodName) ∈ tb := tb_t3 (show tables_1_3[65]? = some _ from rfl) rfl
theorem w_587 : Cond.code ({ cls := "SmallestSpeed$Limits", name := "isSeen", desc := "(LSmallestSpeed$Road;III)Z" } : Jvm.MethodName) prog_6_method_9_code (5 : Nat) (some FieldType.boolean) ∈ tb := tb_t3 (show tables_1_3[66]? = some _ from rfl) rfl
theorem w_588 : Cond.methodLink "SmallestSpeed$Limits" (112 : Nat) ({ cls := "java/lang/Math", name := "abs", desc := "(I)I" } : Jvm.MethodName) ∈ tb := tb_t3 (show tables_1_3[67]? = some _ from rfl) rfl
theorem w_589 : Cond.static ({ cls := "java/lang/Math", name := "abs", desc := "(I)I" } : Jvm.MethodName) ∈ tb := tb_t3 (show tables_1_3[68]? = some _ from rfl) rfl
theorem w_590 : Cond.code ({ cls := "java/lang/Math", name := "abs", desc := "(I)I" } : Jvm.MethodName) prog_17_method_59_code (1 : Nat) (some FieldType.int) ∈ tb := tb_t3 (show tables_1_3[69]? = some _ from rfl) rfl
theorem w_591 : Cond.methodLink "SmallestSpeed$Limits" (117 : Nat) ({ cls := "java/lang/Math", name := "min", desc := "(II)I" } : Jvm.MethodName) ∈ tb := tb_t3 (show tables_1_3[70]? = some _ from rfl) rfl
theorem w_592 : Cond.methodLink "SmallestSpeed$Limits" (95 : Nat) ({ cls := "SmallestSpeed$Limits", name := "nearestBehind", desc := "(LSmallestSpeed$Road;III)I" } : Jvm.MethodName) ∈ tb := tb_t3 (show tables_1_3[71]? = some _ from rfl) rfl
theorem w_593 : Cond.instanceMethod ({ cls := "SmallestSpeed$Limits", name := "nearestBehind", desc := "(LSmallestSpeed$Road;III)I" } : Jvm.MethodName) ∈ tb := tb_t3 (show tables_1_3[72]? = some _ from rfl) rfl
theorem w_594 : Cond.selects "SmallestSpeed$Limits" ({ cls := "SmallestSpeed$Limits", name := "nearestBehind", desc := "(LSmallestSpeed$Road;III)I" } : Jvm.MethodName) ({ cls := "SmallestSpeed$Limits", name := "nearestBehind", desc := "(LSmallestSpeed$Road;III)I" } : Jvm.MethodName) ∈ tb := tb_t3 (show tables_1_3[73]? = some _ from rfl) rfl
theorem w_595 : Cond.code ({ cls := "SmallestSpeed$Limits", name := "nearestBehind", desc := "(LSmallestSpeed$Road;III)I" } : Jvm.MethodName) prog_6_method_7_code (8 : Nat) (some FieldType.int) ∈ tb := tb_t3 (show tables_1_3[74]? = some _ from rfl) rfl
theorem w_596 : Cond.constant "SmallestSpeed$Limits" (99 : Nat) (1048576 : Int32) ∈ tb := tb_t3 (show tables_1_3[75]? = some _ from rfl) rfl
theorem w_597 : Cond.methodLink "SmallestSpeed$Limits" (100 : Nat) ({ cls := "SmallestSpeed$Limits", name := "highByRank", desc := "(I)I" } : Jvm.MethodName) ∈ tb := tb_t3 (show tables_1_3[76]? = some _ from rfl) rfl
theorem w_598 : Cond.static ({ cls := "SmallestSpeed$Limits", name := "highByRank", desc := "(I)I" } : Jvm.MethodName) ∈ tb := tb_t3 (show tables_1_3[77]? = some _ from rfl) rfl
theorem w_599 : Cond.code ({ cls := "SmallestSpeed$Limits", name := "highByRank", desc := "(I)I" } : Jvm.MethodName) prog_6_method_10_code (1 : Nat) (some FieldType.int) ∈ tb := tb_t3 (show tables_1_3[78]? = some _ from rfl) rfl
theorem w_600 : Cond.methodLink "SmallestSpeed" (160 : Nat) ({ cls := "SmallestSpeed$Limits", name := "nearestChild", desc := "(LSmallestSpeed$Road;I)I" } : Jvm.MethodName) ∈ tb := tb_t3 (show tables_1_3[79]? = some _ from rfl) rfl
theorem w_601 : Cond.instanceMethod ({ cls := "SmallestSpeed$Limits", name := "nearestChild", desc := "(LSmallestSpeed$Road;I)I" } : Jvm.MethodName) ∈ tb := tb_t3 (show tables_1_3[80]? = some _ from rfl) rfl
theorem w_602 : Cond.selects "SmallestSpeed$Limits" ({ cls := "SmallestSpeed$Limits", name := "nearestChild", desc := "(LSmallestSpeed$Road;I)I" } : Jvm.MethodName) ({ cls := "SmallestSpeed$Limits", name := "nearestChild", desc := "(LSmallestSpeed$Road;I)I" } : Jvm.MethodName) ∈ tb := tb_t3 (show tables_1_3[81]? = some _ from rfl) rfl
theorem w_603 : Cond.code ({ cls := "SmallestSpeed$Limits", name := "nearestChild", desc := "(LSmallestSpeed$Road;I)I" } : Jvm.MethodName) prog_6_method_5_code (4 : Nat) (some FieldType.int) ∈ tb := tb_t3 (show tables_1_3[82]? = some _ from rfl) rfl
theorem w_604 : Cond.methodLink "SmallestSpeed$Limits" (104 : Nat) ({ cls := "SmallestSpeed$Road", name := "everyChild", desc := "()I" } : Jvm.MethodName) ∈ tb := tb_t3 (show tables_1_3[83]? = some _ from rfl) rfl
theorem w_605 : Cond.methodLink "SmallestSpeedLaw" (66 : Nat) ({ cls := "SmallestSpeed", name := "where", desc := "(II)I" } : Jvm.MethodName) ∈ tb := tb_t3 (show tables_1_3[84]? = some _ from rfl) rfl
theorem w_606 : Cond.instanceMethod ({ cls := "SmallestSpeed", name := "where", desc := "(II)I" } : Jvm.MethodName) ∈ tb := tb_t3 (show tables_1_3[85]? = some _ from rfl) rfl
theorem w_607 : Cond.selects "SmallestSpeed" ({ cls := "SmallestSpeed", name := "where", desc := "(II)I" } : Jvm.MethodName) ({ cls := "SmallestSpeed", name := "where", desc := "(II)I" } : Jvm.MethodName) ∈ tb := tb_t3 (show tables_1_3[86]? = some _ from rfl) rfl
theorem w_608 : Cond.code ({ cls := "SmallestSpeed", name := "where", desc := "(II)I" } : Jvm.MethodName) prog_1_method_14_code (3 : Nat) (some FieldType.int) ∈ tb := tb_t3 (show tables_1_3[87]? = some _ from rfl) rfl
theorem w_609 : Cond.methodLink "SmallestSpeed" (164 : Nat) ({ cls := "SmallestSpeed$Drives", name := "cellOfDrive", desc := "(LSmallestSpeed$Road;II)I" } : Jvm.MethodName) ∈ tb := tb_t3 (show tables_1_3[88]? = some _ from rfl) rfl
theorem w_610 : Cond.instanceMethod ({ cls := "SmallestSpeed$Drives", name := "cellOfDrive", desc := "(LSmallestSpeed$Road;II)I" } : Jvm.MethodName) ∈ tb := tb_t3 (show tables_1_3[89]? = some _ from rfl) rfl
theorem w_611 : Cond.selects "SmallestSpeed$Drives" ({ cls := "SmallestSpeed$Drives", name := "cellOfDrive", desc := "(LSmallestSpeed$Road;II)I" } : Jvm.MethodName) ({ cls := "SmallestSpeed$Drives", name := "cellOfDrive", desc := "(LSmallestSpeed$Road;II)I" } : Jvm.MethodName) ∈ tb := tb_t3 (show tables_1_3[90]? = some _ from rfl) rfl
theorem w_612 : Cond.code ({ cls := "SmallestSpeed$Drives", name := "cellOfDrive", desc := "(LSmallestSpeed$Road;II)I" } : Jvm.MethodName) prog_3_method_2_code (6 : Nat) (some FieldType.int) ∈ tb := tb_t3 (show tables_1_3[91]? = some _ from rfl) rfl
theorem w_613 : Cond.methodLink "SmallestSpeed$Drives" (22 : Nat) ({ cls := "SmallestSpeed$Limits", name := "see", desc := "(LSmallestSpeed$Road;I)V" } : Jvm.MethodName) ∈ tb := tb_t3 (show tables_1_3[92]? = some _ from rfl) rfl
theorem w_614 : Cond.methodLink "SmallestSpeed$Drives" (26 : Nat) ({ cls := "SmallestSpeed$Road", name := "everyChild", desc := "()I" } : Jvm.MethodName) ∈ tb := tb_t3 (show tables_1_3[93]? = some _ from rfl) rfl
theorem w_615 : Cond.methodLink "SmallestSpeed$Drives" (32 : Nat) ({ cls := "SmallestSpeed$Limits", name := "limitIn", desc := "(LSmallestSpeed$Road;II)I" } : Jvm.MethodName) ∈ tb := tb_t3 (show tables_1_3[94]? = some _ from rfl) rfl
theorem w_616 : Cond.methodLink "SmallestSpeed$Drives" (36 : Nat) ({ cls := "java/lang/Math", name := "min", desc := "(II)I" } : Jvm.MethodName) ∈ tb := tb_t3 (show tables_1_3[95]? = some _ from rfl) rfl
theorem w_617 : Cond.methodLink "SmallestSpeedLaw" (70 : Nat) ({ cls := "SmallestSpeed", name := "there", desc := "(I)I" } : Jvm.MethodName) ∈ tb := tb_t3 (show tables_1_3[96]? = some _ from rfl) rfl
theorem w_618 : Cond.instanceMethod ({ cls := "SmallestSpeed", name := "there", desc := "(I)I" } : Jvm.MethodName) ∈ tb := tb_t3 (show tables_1_3[97]? = some _ from rfl) rfl
theorem w_619 : Cond.selects "SmallestSpeed" ({ cls := "SmallestSpeed", name := "there", desc := "(I)I" } : Jvm.MethodName) ({ cls := "SmallestSpeed", name := "there", desc := "(I)I" } : Jvm.MethodName) ∈ tb := tb_t3 (show tables_1_3[98]? = some _ from rfl) rfl
theorem w_620 : Cond.code ({ cls := "SmallestSpeed", name := "there", desc := "(I)I" } : Jvm.MethodName) prog_1_method_15_code (2 : Nat) (some FieldType.int) ∈ tb := tb_t3 (show tables_1_3[99]? = some _ from rfl) rfl
theorem w_621 : Cond.methodLink "SmallestSpeed" (167 : Nat) ({ cls := "SmallestSpeed$Drives", name := "endOfDrive", desc := "(LSmallestSpeed$Road;II)I" } : Jvm.MethodName) ∈ tb := tb_t3 (show tables_1_3[100]? = some _ from rfl) rfl
theorem w_622 : Cond.instanceMethod ({ cls := "SmallestSpeed$Drives", name := "endOfDrive", desc := "(LSmallestSpeed$Road;II)I" } : Jvm.MethodName) ∈ tb := tb_t3 (show tables_1_3[101]? = some _ from rfl) rfl
theorem w_623 : Cond.selects "SmallestSpeed$Drives" ({ cls := "SmallestSpeed$Drives", name := "endOfDrive", desc := "(LSmallestSpeed$Road;II)I" } : Jvm.MethodName) ({ cls := "SmallestSpeed$Drives", name := "endOfDrive", desc := "(LSmallestSpeed$Road;II)I" } : Jvm.MethodName) ∈ tb := tb_t3 (show tables_1_3[102]? = some _ from rfl) rfl
theorem w_624 : Cond.code ({ cls := "SmallestSpeed$Drives", name := "endOfDrive", desc := "(LSmallestSpeed$Road;II)I" } : Jvm.MethodName) prog_3_method_3_code (6 : Nat) (some FieldType.int) ∈ tb := tb_t3 (show tables_1_3[103]? = some _ from rfl) rfl
theorem w_625 : Cond.methodLink "SmallestSpeed" (170 : Nat) ({ cls := "SmallestSpeed", name := "noneIfNever", desc := "(I)I" } : Jvm.MethodName) ∈ tb := tb_t3 (show tables_1_3[104]? = some _ from rfl) rfl
theorem w_626 : Cond.static ({ cls := "SmallestSpeed", name := "noneIfNever", desc := "(I)I" } : Jvm.MethodName) ∈ tb := tb_t3 (show tables_1_3[105]? = some _ from rfl) rfl
theorem w_627 : Cond.code ({ cls := "SmallestSpeed", name := "noneIfNever", desc := "(I)I" } : Jvm.MethodName) prog_1_method_46_code (1 : Nat) (some FieldType.int) ∈ tb := tb_t3 (show tables_1_3[106]? = some _ from rfl) rfl
theorem w_628 : Cond.methodLink "SmallestSpeedLaw" (74 : Nat) ({ cls := "SmallestSpeed", name := "soonest", desc := "(I)I" } : Jvm.MethodName) ∈ tb := tb_t3 (show tables_1_3[107]? = some _ from rfl) rfl
theorem w_629 : Cond.instanceMethod ({ cls := "SmallestSpeed", name := "soonest", desc := "(I)I" } : Jvm.MethodName) ∈ tb := tb_t3 (show tables_1_3[108]? = some _ from rfl) rfl
theorem w_630 : Cond.selects "SmallestSpeed" ({ cls := "SmallestSpeed", name := "soonest", desc := "(I)I" } : Jvm.MethodName) ({ cls := "SmallestSpeed", name := "soonest", desc := "(I)I" } : Jvm.MethodName) ∈ tb := tb_t3 (show tables_1_3[109]? = some _ from rfl) rfl
theorem w_631 : Cond.code ({ cls := "SmallestSpeed", name := "soonest", desc := "(I)I" } : Jvm.MethodName) prog_1_method_16_code (2 : Nat) (some FieldType.int) ∈ tb := tb_t3 (show tables_1_3[110]? = some _ from rfl) rfl
theorem w_632 : Cond.methodLink "SmallestSpeed" (173 : Nat) ({ cls := "SmallestSpeed$Drives", name := "soonestEnd", desc := "(LSmallestSpeed$Road;II)I" } : Jvm.MethodName) ∈ tb := tb_t3 (show tables_1_3[111]? = some _ from rfl) rfl
theorem w_633 : Cond.instanceMethod ({ cls := "SmallestSpeed$Drives", name := "soonestEnd", desc := "(LSmallestSpeed$Road;II)I" } : Jvm.MethodName) ∈ tb := tb_t3 (show tables_1_3[112]? = some _ from rfl) rfl
theorem w_634 : Cond.selects "SmallestSpeed$Drives" ({ cls := "SmallestSpeed$Drives", name := "soonestEnd", desc := "(LSmallestSpeed$Road;II)I" } : Jvm.MethodName) ({ cls := "SmallestSpeed$Drives", name := "soonestEnd", desc := "(LSmallestSpeed$Road;II)I" } : Jvm.MethodName) ∈ tb := tb_t3 (show tables_1_3[113]? = some _ from rfl) rfl
theorem w_635 : Cond.code ({ cls := "SmallestSpeed$Drives", name := "soonestEnd", desc := "(LSmallestSpeed$Road;II)I" } : Jvm.MethodName) prog_3_method_4_code (8 : Nat) (some FieldType.int) ∈ tb := tb_t3 (show tables_1_3[114]? = some _ from rfl) rfl
theorem w_636 : Cond.methodLink "SmallestSpeed$Drives" (42 : Nat) ({ cls := "java/lang/Math", name := "max", desc := "(II)I" } : Jvm.MethodName) ∈ tb := tb_t3 (show tables_1_3[115]? = some _ from rfl) rfl
theorem w_637 : Cond.methodLink "SmallestSpeedLaw" (78 : Nat) ({ cls := "SmallestSpeed", name := "start", desc := "(I)I" } : Jvm.MethodName) ∈ tb := tb_t3 (show tables_1_3[116]? = some _ from rfl) rfl
theorem w_638 : Cond.instanceMethod ({ cls := "SmallestSpeed", name := "start", desc := "(I)I" } : Jvm.MethodName) ∈ tb := tb_t3 (show tables_1_3[117]? = some _ from rfl) rfl
theorem w_639 : Cond.selects "SmallestSpeed" ({ cls := "SmallestSpeed", name := "start", desc := "(I)I" } : Jvm.MethodName) ({ cls := "SmallestSpeed", name := "start", desc := "(I)I" } : Jvm.MethodName) ∈ tb := tb_t3 (show tables_1_3[118]? = some _ from rfl) rfl
theorem w_640 : Cond.code ({ cls := "SmallestSpeed", name := "start", desc := "(I)I" } : Jvm.MethodName) prog_1_method_17_code (2 : Nat) (some FieldType.int) ∈ tb := tb_t3 (show tables_1_3[119]? = some _ from rfl) rfl
theorem w_641 : Cond.methodLink "SmallestSpeed" (176 : Nat) ({ cls := "SmallestSpeed$Drives", name := "bestStart", desc := "(LSmallestSpeed$Road;I)I" } : Jvm.MethodName) ∈ tb := tb_t3 (show tables_1_3[120]? = some _ from rfl) rfl
theorem w_642 : Cond.instanceMethod ({ cls := "SmallestSpeed$Drives", name := "bestStart", desc := "(LSmallestSpeed$Road;I)I" } : Jvm.MethodName) ∈ tb := tb_t3 (show tables_1_3[121]? = some _ from rfl) rfl
theorem w_643 : Cond.selects "SmallestSpeed$Drives" ({ cls := "SmallestSpeed$Drives", name := "bestStart", desc := "(LSmallestSpeed$Road;I)I" } : Jvm.MethodName) ({ cls := "SmallestSpeed$Drives", name := "bestStart", desc := "(LSmallestSpeed$Road;I)I" } : Jvm.MethodName) ∈ tb := tb_t3 (show tables_1_3[122]? = some _ from rfl) rfl
theorem w_644 : Cond.code ({ cls := "SmallestSpeed$Drives", name := "bestStart", desc := "(LSmallestSpeed$Road;I)I" } : Jvm.MethodName) prog_3_method_5_code (7 : Nat) (some FieldType.int) ∈ tb := tb_t3 (show tables_1_3[123]? = some _ from rfl) rfl
theorem w_645 : Cond.methodLink "SmallestSpeed$Drives" (45 : Nat) ({ cls := "SmallestSpeed$Drives", name := "endOfDrive", desc := "(LSmallestSpeed$Road;II)I" } : Jvm.MethodName) ∈ tb := tb_t3 (show tables_1_3[124]? = some _ from rfl) rfl
theorem w_646 : Cond.methodLink "SmallestSpeedLaw" (82 : Nat) ({ cls := "SmallestSpeed", name := "speed", desc := "(I)I" } : Jvm.MethodName) ∈ tb := tb_t3 (show tables_1_3[125]? = some _ from rfl) rfl
theorem w_647 : Cond.instanceMethod ({ cls := "SmallestSpeed", name := "speed", desc := "(I)I" } : Jvm.MethodName) ∈ tb := tb_t3 (show tables_1_3[126]? = some _ from rfl) rfl
theorem w_648 : Cond.selects "SmallestSpeed" ({ cls := "SmallestSpeed", name := "speed", desc := "(I)I" } : Jvm.MethodName) ({ cls := "SmallestSpeed", name := "speed", desc := "(I)I" } : Jvm.MethodName) ∈ tb := tb_t3 (show tables_1_3[127]? = some _ from rfl) rfl
theorem w_649 : Cond.code ({ cls := "SmallestSpeed", name := "speed", desc := "(I)I" } : Jvm.MethodName) prog_1_method_18_code (2 : Nat) (some FieldType.int) ∈ tb := tb_t3 (show tables_1_3[128]? = some _ from rfl) rfl
theorem w_650 : Cond.methodLink "SmallestSpeed" (182 : Nat) ({ cls := "SmallestSpeed$Road", name := "addSpeed", desc := "(I)V" } : Jvm.MethodName) ∈ tb := tb_t3 (show tables_1_3[129]? = some _ from rfl) rfl
theorem w_651 : Cond.instanceMethod ({ cls := "SmallestSpeed$Road", name := "addSpeed", desc := "(I)V" } : Jvm.MethodName) ∈ tb := tb_t3 (show tables_1_3[130]? = some _ from rfl) rfl
theorem w_652 : Cond.selects "SmallestSpeed$Road" ({ cls := "SmallestSpeed$Road", name := "addSpeed", desc := "(I)V" } : Jvm.MethodName) ({ cls := "SmallestSpeed$Road", name := "addSpeed", desc := "(I)V" } : Jvm.MethodName) ∈ tb := tb_t3 (show tables_1_3[131]? = some _ from rfl) rfl
theorem w_653 : Cond.code ({ cls := "SmallestSpeed$Road", name := "addSpeed", desc := "(I)V" } : Jvm.MethodName) prog_8_method_4_code (2 : Nat) none ∈ tb := tb_t3 (show tables_1_3[132]? = some _ from rfl) rfl
theorem w_654 : Cond.methodLink "SmallestSpeedLaw" (86 : Nat) ({ cls := "SmallestSpeed", name := "stop", desc := "()I" } : Jvm.MethodName) ∈ tb := tb_t3 (show tables_1_3[133]? = some _ from rfl) rfl
theorem w_655 : Cond.instanceMethod ({ cls := "SmallestSpeed", name := "stop", desc := "()I" } : Jvm.MethodName) ∈ tb := tb_t3 (show tables_1_3[134]? = some _ from rfl) rfl
theorem w_656 : Cond.selects "SmallestSpeed" ({ cls := "SmallestSpeed", name := "stop", desc := "()I" } : Jvm.MethodName) ({ cls := "SmallestSpeed", name := "stop", desc := "()I" } : Jvm.MethodName) ∈ tb := tb_t3 (show tables_1_3[135]? = some _ from rfl) rfl
theorem w_657 : Cond.code ({ cls := "SmallestSpeed", name := "stop", desc := "()I" } : Jvm.MethodName) prog_1_method_19_code (2 : Nat) (some FieldType.int) ∈ tb := tb_t3 (show tables_1_3[136]? = some _ from rfl) rfl
theorem w_658 : Cond.methodLink "SmallestSpeedLaw" (90 : Nat) ({ cls := "SmallestSpeed", name := "fined", desc := "(II)I" } : Jvm.MethodName) ∈ tb := tb_t3 (show tables_1_3[137]? = some _ from rfl) rfl
theorem w_659 : Cond.instanceMethod ({ cls := "SmallestSpeed", name := "fined", desc := "(II)I" } : Jvm.MethodName) ∈ tb := tb_t3 (show tables_1_3[138]? = some _ from rfl) rfl
theorem w_660 : Cond.selects "SmallestSpeed" ({ cls := "SmallestSpeed", name := "fined", desc := "(II)I" } : Jvm.MethodName) ({ cls := "SmallestSpeed", name := "fined", desc := "(II)I" } : Jvm.MethodName) ∈ tb := tb_t3 (show tables_1_3[139]? = some _ from rfl) rfl
theorem w_661 : Cond.code ({ cls := "SmallestSpeed", name := "fined", desc := "(II)I" } : Jvm.MethodName) prog_1_method_20_code (3 : Nat) (some FieldType.int) ∈ tb := tb_t3 (show tables_1_3[140]? = some _ from rfl) rfl
theorem w_662 : Cond.methodLink "SmallestSpeed" (185 : Nat) ({ cls := "SmallestSpeed$Drives", name := "driveBySpeeds", desc := "(LSmallestSpeed$Road;II)I" } : Jvm.MethodName) ∈ tb := tb_t3 (show tables_1_3[141]? = some _ from rfl) rfl
theorem w_663 : Cond.instanceMethod ({ cls := "SmallestSpeed$Drives", name := "driveBySpeeds", desc := "(LSmallestSpeed$Road;II)I" } : Jvm.MethodName) ∈ tb := tb_t3 (show tables_1_3[142]? = some _ from rfl) rfl
theorem w_664 : Cond.selects "SmallestSpeed$Drives" ({ cls := "SmallestSpeed$Drives", name := "driveBySpeeds", desc := "(LSmallestSpeed$Road;II)I" } : Jvm.MethodName) ({ cls := "SmallestSpeed$Drives", name := "driveBySpeeds", desc := "(LSmallestSpeed$Road;II)I" } : Jvm.MethodName) ∈ tb := tb_t3 (show tables_1_3[143]? = some _ from rfl) rfl
theorem w_665 : Cond.code ({ cls := "SmallestSpeed$Drives", name := "driveBySpeeds", desc := "(LSmallestSpeed$Road;II)I" } : Jvm.MethodName) prog_3_method_6_code (11 : Nat) (some FieldType.int) ∈ tb := tb_t3 (show tables_1_3[144]? = some _ from rfl) rfl
theorem w_666 : Cond.methodLink "SmallestSpeed$Drives" (55 : Nat) ({ cls := "SmallestSpeed$Limits", name := "outBetween", desc := "(LSmallestSpeed$Road;II)I" } : Jvm.MethodName) ∈ tb := tb_t3 (show tables_1_3[145]? = some _ from rfl) rfl
theorem w_667 : Cond.instanceMethod ({ cls := "SmallestSpeed$Limits", name := "outBetween", desc := "(LSmallestSpeed$Road;II)I" } : Jvm.MethodName) ∈ tb := tb_t3 (show tables_1_3[146]? = some _ from rfl) rfl
theorem w_668 : Cond.selects "SmallestSpeed$Limits" ({ cls := "SmallestSpeed$Limits", name := "outBetween", desc := "(LSmallestSpeed$Road;II)I" } : Jvm.MethodName) ({ cls := "SmallestSpeed$Limits", name := "outBetween", desc := "(LSmallestSpeed$Road;II)I" } : Jvm.MethodName) ∈ tb := tb_t3 (show tables_1_3[147]? = some _ from rfl) rfl
theorem w_669 : Cond.code ({ cls := "SmallestSpeed$Limits", name := "outBetween", desc := "(LSmallestSpeed$Road;II)I" } : Jvm.MethodName) prog_6_method_6_code (6 : Nat) (some FieldType.int) ∈ tb := tb_t3 (show tables_1_3[148]? = some _ from rfl) rfl
theorem w_670 : Cond.methodLink "SmallestSpeedLaw" (94 : Nat) ({ cls := "SmallestSpeed", name := "toBed", desc := "(III)I" } : Jvm.MethodName) ∈ tb := tb_t3 (show tables_1_3[149]? = some _ from rfl) rfl
theorem w_671 : Cond.instanceMethod ({ cls := "SmallestSpeed", name := "toBed", desc := "(III)I" } : Jvm.MethodName) ∈ tb := tb_t3 (show tables_1_3[150]? = some _ from rfl) rfl
theorem w_672 : Cond.selects "SmallestSpeed" ({ cls := "SmallestSpeed", name := "toBed", desc := "(III)I" } : Jvm.MethodName) ({ cls := "SmallestSpeed", name := "toBed", desc := "(III)I" } : Jvm.MethodName) ∈ tb := tb_t3 (show tables_1_3[151]? = some _ from rfl) rfl
theorem w_673 : Cond.code ({ cls := "SmallestSpeed", name := "toBed", desc := "(III)I" } : Jvm.MethodName) prog_1_method_21_code (5 : Nat) (some FieldType.int) ∈ tb := tb_t3 (show tables_1_3[152]? = some _ from rfl) rfl
theorem w_674 : Cond.methodLink "SmallestSpeed" (188 : Nat) ({ cls := "SmallestSpeed$Drives", name := "bestToBed", desc := "(LSmallestSpeed$Road;II)I" } : Jvm.MethodName) ∈ tb := tb_t3 (show tables_1_3[153]? = some _ from rfl) rfl
theorem w_675 : Cond.instanceMethod ({ cls := "SmallestSpeed$Drives", name := "bestToBed", desc := "(LSmallestSpeed$Road;II)I" } : Jvm.MethodName) ∈ tb := tb_t3 (show tables_1_3[154]? = some _ from rfl) rfl
theorem w_676 : Cond.selects "SmallestSpeed$Drives" ({ cls := "SmallestSpeed$Drives", name := "bestToBed", desc := "(LSmallestSpeed$Road;II)I" } : Jvm.MethodName) ({ cls := "SmallestSpeed$Drives", name := "bestToBed", desc := "(LSmallestSpeed$Road;II)I" } : Jvm.MethodName) ∈ tb := tb_t3 (show tables_1_3[155]? = some _ from rfl) rfl
theorem w_677 : Cond.code ({ cls := "SmallestSpeed$Drives", name := "bestToBed", desc := "(LSmallestSpeed$Road;II)I" } : Jvm.MethodName) prog_3_method_7_code (10 : Nat) (some FieldType.int) ∈ tb := tb_t3 (show tables_1_3[156]? = some _ from rfl) rfl
theorem w_678 : Cond.methodLink "SmallestSpeed$Drives" (58 : Nat) ({ cls := "SmallestSpeed$Drives", name := "soonestEnd", desc := "(LSmallestSpeed$Road;II)I" } : Jvm.MethodName) ∈ tb := tb_t3 (show tables_1_3[157]? = some _ from rfl) rfl
theorem w_679 : Cond.methodLink "SmallestSpeed$Drives" (61 : Nat) ({ cls := "java/lang/Integer", name := "bitCount", desc := "(I)I" } : Jvm.MethodName) ∈ tb := tb_t3 (show tables_1_3[158]? = some _ from rfl) rfl
theorem w_680 : Cond.static ({ cls := "java/lang/Integer", name := "bitCount", desc := "(I)I" } : Jvm.MethodName) ∈ tb := tb_t3 (show tables_1_3[159]? = some _ from rfl) rfl
theorem w_681 : Cond.code ({ cls := "java/lang/Integer", name := "bitCount", desc := "(I)I" } : Jvm.MethodName) prog_15_method_49_code (1 : Nat) (some FieldType.int) ∈ tb := tb_t3 (show tables_1_3[160]? = some _ from rfl) rfl
theorem w_682 : Cond.constant "java/lang/Integer" (265 : Nat) (1431655765 : Int32) ∈ tb := tb_t3 (show tables_1_3[161]? = some _ from rfl) rfl
theorem w_683 : Cond.constant "java/lang/Integer" (266 : Nat) (858993459 : Int32) ∈ tb := tb_t3 (show tables_1_3[162]? = some _ from rfl) rfl
theorem w_684 : Cond.constant "java/lang/Integer" (267 : Nat) (252645135 : Int32) ∈ tb := tb_t3 (show tables_1_3[163]? = some _ from rfl) rfl
theorem w_685 : Cond.methodLink "SmallestSpeedLaw" (98 : Nat) ({ cls := "SmallestSpeed", name := "move", desc := "(I)I" } : Jvm.MethodName) ∈ tb := tb_t3 (show tables_1_3[164]? = some _ from rfl) rfl
theorem w_686 : Cond.instanceMethod ({ cls := "SmallestSpeed", name := "move", desc := "(I)I" } : Jvm.MethodName) ∈ tb := tb_t3 (show tables_1_3[165]? = some _ from rfl) rfl
theorem w_687 : Cond.selects "SmallestSpeed" ({ cls := "SmallestSpeed", name := "move", desc := "(I)I" } : Jvm.MethodName) ({ cls := "SmallestSpeed", name := "move", desc := "(I)I" } : Jvm.MethodName) ∈ tb := tb_t3 (show tables_1_3[166]? = some _ from rfl) rfl
theorem w_688 : Cond.code ({ cls := "SmallestSpeed", name := "move", desc := "(I)I" } : Jvm.MethodName) prog_1_method_22_code (2 : Nat) (some FieldType.int) ∈ tb := tb_t3 (show tables_1_3[167]? = some _ from rfl) rfl
theorem w_689 : Cond.methodLink "SmallestSpeed" (191 : Nat) ({ cls := "SmallestSpeed$Drives", name := "bestMove", desc := "(LSmallestSpeed$Road;I)I" } : Jvm.MethodName) ∈ tb := tb_t3 (show tables_1_3[168]? = some _ from rfl) rfl
theorem w_690 : Cond.instanceMethod ({ cls := "SmallestSpeed$Drives", name := "bestMove", desc := "(LSmallestSpeed$Road;I)I" } : Jvm.MethodName) ∈ tb := tb_t3 (show tables_1_3[169]? = some _ from rfl) rfl
theorem w_691 : Cond.selects "SmallestSpeed$Drives" ({ cls := "SmallestSpeed$Drives", name := "bestMove", desc := "(LSmallestSpeed$Road;I)I" } : Jvm.MethodName) ({ cls := "SmallestSpeed$Drives", name := "bestMove", desc := "(LSmallestSpeed$Road;I)I" } : Jvm.MethodName) ∈ tb := tb_t3 (show tables_1_3[170]? = some _ from rfl) rfl
theorem w_692 : Cond.code ({ cls := "SmallestSpeed$Drives", name := "bestMove", desc := "(LSmallestSpeed$Road;I)I" } : Jvm.MethodName) prog_3_method_8_code (9 : Nat) (some FieldType.int) ∈ tb := tb_t3 (show tables_1_3[171]? = some _ from rfl) rfl
theorem w_693 : Cond.methodLink "SmallestSpeedLaw" (102 : Nat) ({ cls := "SmallestSpeed", name := "carters", desc := "(II)I" } : Jvm.MethodName) ∈ tb := tb_t3 (show tables_1_3[172]? = some _ from rfl) rfl
theorem w_694 : Cond.instanceMethod ({ cls := "SmallestSpeed", name := "carters", desc := "(II)I" } : Jvm.MethodName) ∈ tb := tb_t3 (show tables_1_3[173]? = some _ from rfl) rfl
theorem w_695 : Cond.selects "SmallestSpeed" ({ cls := "SmallestSpeed", name := "carters", desc := "(II)I" } : Jvm.MethodName) ({ cls := "SmallestSpeed", name := "carters", desc := "(II)I" } : Jvm.MethodName) ∈ tb := tb_t3 (show tables_1_3[174]? = some _ from rfl) rfl
theorem w_696 : Cond.code ({ cls := "SmallestSpeed", name := "carters", desc := "(II)I" } : Jvm.MethodName) prog_1_method_23_code (3 : Nat) (some FieldType.int) ∈ tb := tb_t3 (show tables_1_3[175]? = some _ from rfl) rfl
theorem w_697 : Cond.methodLink "SmallestSpeed" (194 : Nat) ({ cls := "SmallestSpeed$Drives", name := "restingPairs", desc := "(LSmallestSpeed$Road;II)I" } : Jvm.MethodName) ∈ tb := tb_t3 (show tables_1_3[176]? = some _ from rfl) rfl
theorem w_698 : Cond.instanceMethod ({ cls := "SmallestSpeed$Drives", name := "restingPairs", desc := "(LSmallestSpeed$Road;II)I" } : Jvm.MethodName) ∈ tb := tb_t3 (show tables_1_3[177]? = some _ from rfl) rfl
theorem w_699 : Cond.selects "SmallestSpeed$Drives" ({ cls := "SmallestSpeed$Drives", name := "restingPairs", desc := "(LSmallestSpeed$Road;II)I" } : Jvm.MethodName) ({ cls := "SmallestSpeed$Drives", name := "restingPairs", desc := "(LSmallestSpeed$Road;II)I" } : Jvm.MethodName) ∈ tb := tb_t3 (show tables_1_3[178]? = some _ from rfl) rfl
theorem w_700 : Cond.code ({ cls := "SmallestSpeed$Drives", name := "restingPairs", desc := "(LSmallestSpeed$Road;II)I" } : Jvm.MethodName) prog_3_method_9_code (8 : Nat) (some FieldType.int) ∈ tb := tb_t3 (show tables_1_3[179]? = some _ from rfl) rfl
theorem w_701 : Cond.methodLink "SmallestSpeed$Drives" (73 : Nat) ({ cls := "SmallestSpeed$Drives", name := "isBestAgainst", desc := "(II)Z" } : Jvm.MethodName) ∈ tb := tb_t3 (show tables_1_3[180]? = some _ from rfl) rfl
theorem w_702 : Cond.instanceMethod ({ cls := "SmallestSpeed$Drives", name := "isBestAgainst", desc := "(II)Z" } : Jvm.MethodName) ∈ tb := tb_t3 (show tables_1_3[181]? = some _ from rfl) rfl
theorem w_703 : Cond.selects "SmallestSpeed$Drives" ({ cls := "SmallestSpeed$Drives", name := "isBestAgainst", desc := "(II)Z" } : Jvm.MethodName) ({ cls := "SmallestSpeed$Drives", name := "isBestAgainst", desc := "(II)Z" } : Jvm.MethodName) ∈ tb := tb_t3 (show tables_1_3[182]? = some _ from rfl) rfl
theorem w_704 : Cond.code ({ cls := "SmallestSpeed$Drives", name := "isBestAgainst", desc := "(II)Z" } : Jvm.MethodName) prog_3_method_10_code (5 : Nat) (some FieldType.boolean) ∈ tb := tb_t3 (show tables_1_3[183]? = some _ from rfl) rfl
theorem w_705 : Cond.methodLink "SmallestSpeed$Drives" (77 : Nat) ({ cls := "SmallestSpeed$Drives", name := "getsAgainst", desc := "(II)I" } : Jvm.MethodName) ∈ tb := tb_t3 (show tables_1_3[184]? = some _ from rfl) rfl
theorem w_706 : Cond.instanceMethod ({ cls := "SmallestSpeed$Drives", name := "getsAgainst", desc := "(II)I" } : Jvm.MethodName) ∈ tb := tb_t3 (show tables_1_3[185]? = some _ from rfl) rfl
theorem w_707 : Cond.selects "SmallestSpeed$Drives" ({ cls := "SmallestSpeed$Drives", name := "getsAgainst", desc := "(II)I" } : Jvm.MethodName) ({ cls := "SmallestSpeed$Drives", name := "getsAgainst", desc := "(II)I" } : Jvm.MethodName) ∈ tb := tb_t3 (show tables_1_3[186]? = some _ from rfl) rfl
theorem w_708 : Cond.code ({ cls := "SmallestSpeed$Drives", name := "getsAgainst", desc := "(II)I" } : Jvm.MethodName) prog_3_method_11_code (4 : Nat) (some FieldType.int) ∈ tb := tb_t3 (show tables_1_3[187]? = some _ from rfl) rfl
theorem w_709 : Cond.methodLink "SmallestSpeedLaw" (106 : Nat) ({ cls := "SmallestSpeed", name := "reading", desc := "(III)I" } : Jvm.MethodName) ∈ tb := tb_t3 (show tables_1_3[188]? = some _ from rfl) rfl
theorem w_710 : Cond.instanceMethod ({ cls := "SmallestSpeed", name := "reading", desc := "(III)I" } : Jvm.MethodName) ∈ tb := tb_t3 (show tables_1_3[189]? = some _ from rfl) rfl
theorem w_711 : Cond.selects "SmallestSpeed" ({ cls := "SmallestSpeed", name := "reading", desc := "(III)I" } : Jvm.MethodName) ({ cls := "SmallestSpeed", name := "reading", desc := "(III)I" } : Jvm.MethodName) ∈ tb := tb_t3 (show tables_1_3[190]? = some _ from rfl) rfl
theorem w_712 : Cond.code ({ cls := "SmallestSpeed", name := "reading", desc := "(III)I" } : Jvm.MethodName) prog_1_method_24_code (4 : Nat) (some FieldType.int) ∈ tb := tb_t3 (show tables_1_3[191]? = some _ from rfl) rfl
theorem w_713 : Cond.methodLink "SmallestSpeed" (200 : Nat) ({ cls := "SmallestSpeed$Road", name := "addReading", desc := "(III)V" } : Jvm.MethodName) ∈ tb := tb_t3 (show tables_1_3[192]? = some _ from rfl) rfl
theorem w_714 : Cond.instanceMethod ({ cls := "SmallestSpeed$Road", name := "addReading", desc := "(III)V" } : Jvm.MethodName) ∈ tb := tb_t3 (show tables_1_3[193]? = some _ from rfl) rfl
theorem w_715 : Cond.selects "SmallestSpeed$Road" ({ cls := "SmallestSpeed$Road", name := "addReading", desc := "(III)V" } : Jvm.MethodName) ({ cls := "SmallestSpeed$Road", name := "addReading", desc := "(III)V" } : Jvm.MethodName) ∈ tb := tb_t3 (show tables_1_3[194]? = some _ from rfl) rfl
theorem w_716 : Cond.code ({ cls := "SmallestSpeed$Road", name := "addReading", desc := "(III)V" } : Jvm.MethodName) prog_8_method_5_code (4 : Nat) none ∈ tb := tb_t3 (show tables_1_3[195]? = some _ from rfl) rfl
theorem w_717 : Cond.methodLink "SmallestSpeedLaw" (110 : Nat) ({ cls := "SmallestSpeed", name := "forget", desc := "()I" } : Jvm.MethodName) ∈ tb := tb_t3 (show tables_1_3[196]? = some _ from rfl) rfl
theorem w_718 : Cond.instanceMethod ({ cls := "SmallestSpeed", name := "forget", desc := "()I" } : Jvm.MethodName) ∈ tb := tb_t3 (show tables_1_3[197]? = some _ from rfl) rfl
theorem w_719 : Cond.selects "SmallestSpeed" ({ cls := "SmallestSpeed", name := "forget", desc := "()I" } : Jvm.MethodName) ({ cls := "SmallestSpeed", name := "forget", desc := "()I" } : Jvm.MethodName) ∈ tb := tb_t3 (show tables_1_3[198]? = some _ from rfl) rfl
theorem w_720 : Cond.code ({ cls := "SmallestSpeed", name := "forget", desc := "()I" } : Jvm.MethodName) prog_1_method_25_code (2 : Nat) (some FieldType.int) ∈ tb := tb_t3 (show tables_1_3[199]? = some _ from rfl) rfl
theorem w_721 : Cond.methodLink "SmallestSpeedLaw" (114 : Nat) ({ cls := "SmallestSpeed", name := "out", desc := "(I)I" } : Jvm.MethodName) ∈ tb := tb_t3 (show tables_1_3[200]? = some _ from rfl) rfl
theorem w_722 : Cond.instanceMethod ({ cls := "SmallestSpeed", name := "out", desc := "(I)I" } : Jvm.MethodName) ∈ tb := tb_t3 (show tables_1_3[201]? = some _ from rfl) rfl
theorem w_723 : Cond.selects "SmallestSpeed" ({ cls := "SmallestSpeed", name := "out", desc := "(I)I" } : Jvm.MethodName) ({ cls := "SmallestSpeed", name := "out", desc := "(I)I" } : Jvm.MethodName) ∈ tb := tb_t3 (show tables_1_3[202]? = some _ from rfl) rfl
theorem w_724 : Cond.code ({ cls := "SmallestSpeed", name := "out", desc := "(I)I" } : Jvm.MethodName) prog_1_method_26_code (4 : Nat) (some FieldType.int) ∈ tb := tb_t3 (show tables_1_3[203]? = some _ from rfl) rfl
theorem w_725 : Cond.methodLink "SmallestSpeed" (204 : Nat) ({ cls := "SmallestSpeed$Sightings", name := "fittingSets", desc := "(LSmallestSpeed$Road;)J" } : Jvm.MethodName) ∈ tb := tb_t3 (show tables_1_3[204]? = some _ from rfl) rfl
theorem w_726 : Cond.instanceMethod ({ cls := "SmallestSpeed$Sightings", name := "fittingSets", desc := "(LSmallestSpeed$Road;)J" } : Jvm.MethodName) ∈ tb := tb_t3 (show tables_1_3[205]? = some _ from rfl) rfl
theorem w_727 : Cond.selects "SmallestSpeed$Sightings" ({ cls := "SmallestSpeed$Sightings", name := "fittingSets", desc := "(LSmallestSpeed$Road;)J" } : Jvm.MethodName) ({ cls := "SmallestSpeed$Sightings", name := "fittingSets", desc := "(LSmallestSpeed$Road;)J" } : Jvm.MethodName) ∈ tb := tb_t3 (show tables_1_3[206]? = some _ from rfl) rfl
theorem w_728 : Cond.code ({ cls := "SmallestSpeed$Sightings", name := "fittingSets", desc := "(LSmallestSpeed$Road;)J" } : Jvm.MethodName) prog_10_method_3_code (5 : Nat) (some FieldType.long) ∈ tb := tb_t3 (show tables_1_3[207]? = some _ from rfl) rfl
theorem w_729 : Cond.methodLink "SmallestSpeed$Sightings" (45 : Nat) ({ cls := "SmallestSpeed$Road", name := "everyChild", desc := "()I" } : Jvm.MethodName) ∈ tb := tb_t3 (show tables_1_3[208]? = some _ from rfl) rfl
theorem w_730 : Cond.methodLink "SmallestSpeed$Sightings" (49 : Nat) ({ cls := "SmallestSpeed$Sightings", name := "isAsRead", desc := "(LSmallestSpeed$Road;I)Z" } : Jvm.MethodName) ∈ tb := tb_t3 (show tables_1_3[209]? = some _ from rfl) rfl
theorem w_731 : Cond.instanceMethod ({ cls := "SmallestSpeed$Sightings", name := "isAsRead", desc := "(LSmallestSpeed$Road;I)Z" } : Jvm.MethodName) ∈ tb := tb_t3 (show tables_1_3[210]? = some _ from rfl) rfl
theorem w_732 : Cond.selects "SmallestSpeed$Sightings" ({ cls := "SmallestSpeed$Sightings", name := "isAsRead", desc := "(LSmallestSpeed$Road;I)Z" } : Jvm.MethodName) ({ cls := "SmallestSpeed$Sightings", name := "isAsRead", desc := "(LSmallestSpeed$Road;I)Z" } : Jvm.MethodName) ∈ tb := tb_t3 (show tables_1_3[211]? = some _ from rfl) rfl
theorem w_733 : Cond.code ({ cls := "SmallestSpeed$Sightings", name := "isAsRead", desc := "(LSmallestSpeed$Road;I)Z" } : Jvm.MethodName) prog_10_method_2_code (4 : Nat) (some FieldType.boolean) ∈ tb := tb_t3 (show tables_1_3[212]? = some _ from rfl) rfl
theorem w_734 : Cond.methodLink "SmallestSpeed$Sightings" (31 : Nat) ({ cls := "SmallestSpeed$Limits", name := "see", desc := "(LSmallestSpeed$Road;I)V" } : Jvm.MethodName) ∈ tb := tb_t3 (show tables_1_3[213]? = some _ from rfl) rfl
theorem w_735 : Cond.methodLink "SmallestSpeed$Sightings" (38 : Nat) ({ cls := "SmallestSpeed$Limits", name := "limitIn", desc := "(LSmallestSpeed$Road;II)I" } : Jvm.MethodName) ∈ tb := tb_t3 (show tables_1_3[214]? = some _ from rfl) rfl
theorem w_736 : Cond.methodLink "SmallestSpeed" (208 : Nat) ({ cls := "java/lang/Long", name := "bitCount", desc := "(J)I" } : Jvm.MethodName) ∈ tb := tb_t3 (show tables_1_3[215]? = some _ from rfl) rfl
theorem w_737 : Cond.static ({ cls := "java/lang/Long", name := "bitCount", desc := "(J)I" } : Jvm.MethodName) ∈ tb := tb_t3 (show tables_1_3[216]? = some _ from rfl) rfl
theorem w_738 : Cond.code ({ cls := "java/lang/Long", name := "bitCount", desc := "(J)I" } : Jvm.MethodName) prog_16_method_50_code (2 : Nat) (some FieldType.int) ∈ tb := tb_t3 (show tables_1_3[217]? = some _ from rfl) rfl
theorem w_739 : Cond.constantLong "java/lang/Long" (314 : Nat) (6148914691236517205 : Int64) ∈ tb := tb_t3 (show tables_1_3[218]? = some _ from rfl) rfl
theorem w_740 : Cond.constantLong "java/lang/Long" (316 : Nat) (3689348814741910323 : Int64) ∈ tb := tb_t3 (show tables_1_3[219]? = some _ from rfl) rfl
theorem w_741 : Cond.constantLong "java/lang/Long" (318 : Nat) (1085102592571150095 : Int64) ∈ tb := tb_t3 (show tables_1_3[220]? = some _ from rfl) rfl
theorem w_742 : Cond.methodLink "SmallestSpeed" (214 : Nat) ({ cls := "SmallestSpeed$Sightings", name := "inAllSets", desc := "(LSmallestSpeed$Road;J)I" } : Jvm.MethodName) ∈ tb := tb_t3 (show tables_1_3[221]? = some _ from rfl) rfl
theorem w_743 : Cond.instanceMethod ({ cls := "SmallestSpeed$Sightings", name := "inAllSets", desc := "(LSmallestSpeed$Road;J)I" } : Jvm.MethodName) ∈ tb := tb_t3 (show tables_1_3[222]? = some _ from rfl) rfl
theorem w_744 : Cond.selects "SmallestSpeed$Sightings" ({ cls := "SmallestSpeed$Sightings", name := "inAllSets", desc := "(LSmallestSpeed$Road;J)I" } : Jvm.MethodName) ({ cls := "SmallestSpeed$Sightings", name := "inAllSets", desc := "(LSmallestSpeed$Road;J)I" } : Jvm.MethodName) ∈ tb := tb_t3 (show tables_1_3[223]? = some _ from rfl) rfl
theorem w_745 : Cond.code ({ cls := "SmallestSpeed$Sightings", name := "inAllSets", desc := "(LSmallestSpeed$Road;J)I" } : Jvm.MethodName) prog_10_method_4_code (6 : Nat) (some FieldType.int) ∈ tb := tb_t3 (show tables_1_3[224]? = some _ from rfl) rfl
theorem w_746 : Cond.methodLink "SmallestSpeedLaw" (118 : Nat) ({ cls := "SmallestSpeed", name := "look", desc := "(I)I" } : Jvm.MethodName) ∈ tb := tb_t3 (show tables_1_3[225]? = some _ from rfl) rfl
theorem w_747 : Cond.instanceMethod ({ cls := "SmallestSpeed", name := "look", desc := "(I)I" } : Jvm.MethodName) ∈ tb := tb_t3 (show tables_1_3[226]? = some _ from rfl) rfl
theorem w_748 : Cond.selects "SmallestSpeed" ({ cls := "SmallestSpeed", name := "look", desc := "(I)I" } : Jvm.MethodName) ({ cls := "SmallestSpeed", name := "look", desc := "(I)I" } : Jvm.MethodName) ∈ tb := tb_t3 (show tables_1_3[227]? = some _ from rfl) rfl
theorem w_749 : Cond.code ({ cls := "SmallestSpeed", name := "look", desc := "(I)I" } : Jvm.MethodName) prog_1_method_27_code (2 : Nat) (some FieldType.int) ∈ tb := tb_t3 (show tables_1_3[228]? = some _ from rfl) rfl
theorem w_750 : Cond.methodLink "SmallestSpeed" (218 : Nat) ({ cls := "SmallestSpeed$Sightings", name := "bestCell", desc := "(LSmallestSpeed$Road;JI)I" } : Jvm.MethodName) ∈ tb := tb_t3 (show tables_1_3[229]? = some _ from rfl) rfl
theorem w_751 : Cond.instanceMethod ({ cls := "SmallestSpeed$Sightings", name := "bestCell", desc := "(LSmallestSpeed$Road;JI)I" } : Jvm.MethodName) ∈ tb := tb_t3 (show tables_1_3[230]? = some _ from rfl) rfl
theorem w_752 : Cond.selects "SmallestSpeed$Sightings" ({ cls := "SmallestSpeed$Sightings", name := "bestCell", desc := "(LSmallestSpeed$Road;JI)I" } : Jvm.MethodName) ({ cls := "SmallestSpeed$Sightings", name := "bestCell", desc := "(LSmallestSpeed$Road;JI)I" } : Jvm.MethodName) ∈ tb := tb_t3 (show tables_1_3[231]? = some _ from rfl) rfl
theorem w_753 : Cond.code ({ cls := "SmallestSpeed$Sightings", name := "bestCell", desc := "(LSmallestSpeed$Road;JI)I" } : Jvm.MethodName) prog_10_method_5_code (9 : Nat) (some FieldType.int) ∈ tb := tb_t3 (show tables_1_3[232]? = some _ from rfl) rfl
theorem w_754 : Cond.methodLink "SmallestSpeed$Sightings" (53 : Nat) ({ cls := "java/lang/Long", name := "bitCount", desc := "(J)I" } : Jvm.MethodName) ∈ tb := tb_t3 (show tables_1_3[233]? = some _ from rfl) rfl
theorem w_755 : Cond.methodLink "SmallestSpeed$Sightings" (59 : Nat) ({ cls := "SmallestSpeed$Sightings", name := "mostAlike", desc := "(LSmallestSpeed$Road;JI)I" } : Jvm.MethodName) ∈ tb := tb_t3 (show tables_1_3[234]? = some _ from rfl) rfl
theorem w_756 : Cond.instanceMethod ({ cls := "SmallestSpeed$Sightings", name := "mostAlike", desc := "(LSmallestSpeed$Road;JI)I" } : Jvm.MethodName) ∈ tb := tb_t3 (show tables_1_3[235]? = some _ from rfl) rfl
theorem w_757 : Cond.selects "SmallestSpeed$Sightings" ({ cls := "SmallestSpeed$Sightings", name := "mostAlike", desc := "(LSmallestSpeed$Road;JI)I" } : Jvm.MethodName) ({ cls := "SmallestSpeed$Sightings", name := "mostAlike", desc := "(LSmallestSpeed$Road;JI)I" } : Jvm.MethodName) ∈ tb := tb_t3 (show tables_1_3[236]? = some _ from rfl) rfl
theorem w_758 : Cond.code ({ cls := "SmallestSpeed$Sightings", name := "mostAlike", desc := "(LSmallestSpeed$Road;JI)I" } : Jvm.MethodName) prog_10_method_6_code (8 : Nat) (some FieldType.int) ∈ tb := tb_t3 (show tables_1_3[237]? = some _ from rfl) rfl
theorem w_759 : Cond.methodLink "SmallestSpeed$Sightings" (63 : Nat) ({ cls := "java/lang/Math", name := "max", desc := "(II)I" } : Jvm.MethodName) ∈ tb := tb_t3 (show tables_1_3[238]? = some _ from rfl) rfl
theorem w_760 : Cond.methodLink "SmallestSpeedLaw" (122 : Nat) ({ cls := "SmallestSpeed", name := "dolls", desc := "()I" } : Jvm.MethodName) ∈ tb := tb_t3 (show tables_1_3[239]? = some _ from rfl) rfl
theorem w_761 : Cond.instanceMethod ({ cls := "SmallestSpeed", name := "dolls", desc := "()I" } : Jvm.MethodName) ∈ tb := tb_t4 (show tables_1_4[0]? = some _ from rfl) rfl
theorem w_762 : Cond.selects "SmallestSpeed" ({ cls := "SmallestSpeed", name := "dolls", desc := "()I" } : Jvm.MethodName) ({ cls := "SmallestSpeed", name := "dolls", desc := "()I" } : Jvm.MethodName) ∈ tb := tb_t4 (show tables_1_4[1]? = some _ from rfl) rfl
theorem w_763 : Cond.code ({ cls := "SmallestSpeed", name := "dolls", desc := "()I" } : Jvm.MethodName) prog_1_method_28_code (1 : Nat) (some FieldType.int) ∈ tb := tb_t4 (show tables_1_4[2]? = some _ from rfl) rfl
theorem w_764 : Cond.methodLink "SmallestSpeed" (222 : Nat) ({ cls := "SmallestSpeed$Sightings", name := "possibleDolls", desc := "(LSmallestSpeed$Road;)I" } : Jvm.MethodName) ∈ tb := tb_t4 (show tables_1_4[3]? = some _ from rfl) rfl
theorem w_765 : Cond.instanceMethod ({ cls := "SmallestSpeed$Sightings", name := "possibleDolls", desc := "(LSmallestSpeed$Road;)I" } : Jvm.MethodName) ∈ tb := tb_t4 (show tables_1_4[4]? = some _ from rfl) rfl
theorem w_766 : Cond.selects "SmallestSpeed$Sightings" ({ cls := "SmallestSpeed$Sightings", name := "possibleDolls", desc := "(LSmallestSpeed$Road;)I" } : Jvm.MethodName) ({ cls := "SmallestSpeed$Sightings", name := "possibleDolls", desc := "(LSmallestSpeed$Road;)I" } : Jvm.MethodName) ∈ tb := tb_t4 (show tables_1_4[5]? = some _ from rfl) rfl
theorem w_767 : Cond.code ({ cls := "SmallestSpeed$Sightings", name := "possibleDolls", desc := "(LSmallestSpeed$Road;)I" } : Jvm.MethodName) prog_10_method_7_code (5 : Nat) (some FieldType.int) ∈ tb := tb_t4 (show tables_1_4[6]? = some _ from rfl) rfl
theorem w_768 : Cond.methodLink "SmallestSpeedLaw" (126 : Nat) ({ cls := "SmallestSpeed", name := "days", desc := "(III)I" } : Jvm.MethodName) ∈ tb := tb_t4 (show tables_1_4[7]? = some _ from rfl) rfl
theorem w_769 : Cond.instanceMethod ({ cls := "SmallestSpeed", name := "days", desc := "(III)I" } : Jvm.MethodName) ∈ tb := tb_t4 (show tables_1_4[8]? = some _ from rfl) rfl
theorem w_770 : Cond.selects "SmallestSpeed" ({ cls := "SmallestSpeed", name := "days", desc := "(III)I" } : Jvm.MethodName) ({ cls := "SmallestSpeed", name := "days", desc := "(III)I" } : Jvm.MethodName) ∈ tb := tb_t4 (show tables_1_4[9]? = some _ from rfl) rfl
theorem w_771 : Cond.code ({ cls := "SmallestSpeed", name := "days", desc := "(III)I" } : Jvm.MethodName) prog_1_method_29_code (4 : Nat) (some FieldType.int) ∈ tb := tb_t4 (show tables_1_4[10]? = some _ from rfl) rfl
theorem w_772 : Cond.constant "SmallestSpeed" (225 : Nat) (999999 : Int32) ∈ tb := tb_t4 (show tables_1_4[11]? = some _ from rfl) rfl
theorem w_773 : Cond.methodLink "SmallestSpeed" (226 : Nat) ({ cls := "SmallestSpeed$Drives", name := "minutesOfDays", desc := "(LSmallestSpeed$Road;III)I" } : Jvm.MethodName) ∈ tb := tb_t4 (show tables_1_4[12]? = some _ from rfl) rfl
theorem w_774 : Cond.instanceMethod ({ cls := "SmallestSpeed$Drives", name := "minutesOfDays", desc := "(LSmallestSpeed$Road;III)I" } : Jvm.MethodName) ∈ tb := tb_t4 (show tables_1_4[13]? = some _ from rfl) rfl
theorem w_775 : Cond.selects "SmallestSpeed$Drives" ({ cls := "SmallestSpeed$Drives", name := "minutesOfDays", desc := "(LSmallestSpeed$Road;III)I" } : Jvm.MethodName) ({ cls := "SmallestSpeed$Drives", name := "minutesOfDays", desc := "(LSmallestSpeed$Road;III)I" } : Jvm.MethodName) ∈ tb := tb_t4 (show tables_1_4[14]? = some _ from rfl) rfl
theorem w_776 : Cond.code ({ cls := "SmallestSpeed$Drives", name := "minutesOfDays", desc := "(LSmallestSpeed$Road;III)I" } : Jvm.MethodName) prog_3_method_12_code (11 : Nat) (some FieldType.int) ∈ tb := tb_t4 (show tables_1_4[15]? = some _ from rfl) rfl
theorem w_777 : Cond.constantLong "SmallestSpeed$Drives" (80 : Nat) (1103515245 : Int64) ∈ tb := tb_t4 (show tables_1_4[16]? = some _ from rfl) rfl
theorem w_778 : Cond.constantLong "SmallestSpeed$Drives" (82 : Nat) (12345 : Int64) ∈ tb := tb_t4 (show tables_1_4[17]? = some _ from rfl) rfl
theorem w_779 : Cond.constantLong "SmallestSpeed$Drives" (84 : Nat) (2147483648 : Int64) ∈ tb := tb_t4 (show tables_1_4[18]? = some _ from rfl) rfl
theorem w_780 : Cond.constantLong "SmallestSpeed$Drives" (86 : Nat) (65536 : Int64) ∈ tb := tb_t4 (show tables_1_4[19]? = some _ from rfl) rfl
theorem w_781 : Cond.constantLong "SmallestSpeed$Drives" (88 : Nat) (100 : Int64) ∈ tb := tb_t4 (show tables_1_4[20]? = some _ from rfl) rfl
theorem w_782 : Cond.methodLink "SmallestSpeed" (230 : Nat) ({ cls := "SmallestSpeed", name := "keepFraction", desc := "(II)V" } : Jvm.MethodName) ∈ tb := tb_t4 (show tables_1_4[21]? = some _ from rfl) rfl
theorem w_784 : Cond.instanceMethod ({ cls := "SmallestSpeed", name := "keepFraction", desc := "(II)V" } : Jvm.MethodName) ∈ tb := tb_t4 (show tables_1_4[23]? = some _ from rfl) rfl
theorem w_785 : Cond.code ({ cls := "SmallestSpeed", name := "keepFraction", desc := "(II)V" } : Jvm.MethodName) prog_1_method_37_code (4 : Nat) none ∈ tb := tb_t4 (show tables_1_4[24]? = some _ from rfl) rfl
theorem w_786 : Cond.methodLink "SmallestSpeedLaw" (130 : Nat) ({ cls := "SmallestSpeed", name := "part", desc := "(I)J" } : Jvm.MethodName) ∈ tb := tb_t4 (show tables_1_4[25]? = some _ from rfl) rfl
theorem w_787 : Cond.instanceMethod ({ cls := "SmallestSpeed", name := "part", desc := "(I)J" } : Jvm.MethodName) ∈ tb := tb_t4 (show tables_1_4[26]? = some _ from rfl) rfl
theorem w_788 : Cond.selects "SmallestSpeed" ({ cls := "SmallestSpeed", name := "part", desc := "(I)J" } : Jvm.MethodName) ({ cls := "SmallestSpeed", name := "part", desc := "(I)J" } : Jvm.MethodName) ∈ tb := tb_t4 (show tables_1_4[27]? = some _ from rfl) rfl
theorem w_789 : Cond.code ({ cls := "SmallestSpeed", name := "part", desc := "(I)J" } : Jvm.MethodName) prog_1_method_30_code (2 : Nat) (some FieldType.long) ∈ tb := tb_t4 (show tables_1_4[28]? = some _ from rfl) rfl
theorem w_790 : Cond.methodLink "SmallestSpeedLaw" (135 : Nat) ({ cls := "SmallestSpeed", name := "image", desc := "(I)I" } : Jvm.MethodName) ∈ tb := tb_t4 (show tables_1_4[29]? = some _ from rfl) rfl
theorem w_791 : Cond.instanceMethod ({ cls := "SmallestSpeed", name := "image", desc := "(I)I" } : Jvm.MethodName) ∈ tb := tb_t4 (show tables_1_4[30]? = some _ from rfl) rfl
theorem w_792 : Cond.selects "SmallestSpeed" ({ cls := "SmallestSpeed", name := "image", desc := "(I)I" } : Jvm.MethodName) ({ cls := "SmallestSpeed", name := "image", desc := "(I)I" } : Jvm.MethodName) ∈ tb := tb_t4 (show tables_1_4[31]? = some _ from rfl) rfl
theorem w_793 : Cond.code ({ cls := "SmallestSpeed", name := "image", desc := "(I)I" } : Jvm.MethodName) prog_1_method_31_code (2 : Nat) (some FieldType.int) ∈ tb := tb_t4 (show tables_1_4[32]? = some _ from rfl) rfl
theorem w_794 : Cond.methodLink "SmallestSpeedLaw" (139 : Nat) ({ cls := "SmallestSpeed", name := "from", desc := "(I)I" } : Jvm.MethodName) ∈ tb := tb_t4 (show tables_1_4[33]? = some _ from rfl) rfl
theorem w_795 : Cond.instanceMethod ({ cls := "SmallestSpeed", name := "from", desc := "(I)I" } : Jvm.MethodName) ∈ tb := tb_t4 (show tables_1_4[34]? = some _ from rfl) rfl
theorem w_796 : Cond.selects "SmallestSpeed" ({ cls := "SmallestSpeed", name := "from", desc := "(I)I" } : Jvm.MethodName) ({ cls := "SmallestSpeed", name := "from", desc := "(I)I" } : Jvm.MethodName) ∈ tb := tb_t4 (show tables_1_4[35]? = some _ from rfl) rfl
theorem w_797 : Cond.code ({ cls := "SmallestSpeed", name := "from", desc := "(I)I" } : Jvm.MethodName) prog_1_method_32_code (3 : Nat) (some FieldType.int) ∈ tb := tb_t4 (show tables_1_4[36]? = some _ from rfl) rfl
theorem w_798 : Cond.methodLink "SmallestSpeedLaw" (143 : Nat) ({ cls := "SmallestSpeed", name := "status", desc := "(I)I" } : Jvm.MethodName) ∈ tb := tb_t4 (show tables_1_4[37]? = some _ from rfl) rfl
theorem w_799 : Cond.instanceMethod ({ cls := "SmallestSpeed", name := "status", desc := "(I)I" } : Jvm.MethodName) ∈ tb := tb_t4 (show tables_1_4[38]? = some _ from rfl) rfl
theorem w_800 : Cond.selects "SmallestSpeed" ({ cls := "SmallestSpeed", name := "status", desc := "(I)I" } : Jvm.MethodName) ({ cls := "SmallestSpeed", name := "status", desc := "(I)I" } : Jvm.MethodName) ∈ tb := tb_t4 (show tables_1_4[39]? = some _ from rfl) rfl
theorem w_801 : Cond.code ({ cls := "SmallestSpeed", name := "status", desc := "(I)I" } : Jvm.MethodName) prog_1_method_33_code (2 : Nat) (some FieldType.int) ∈ tb := tb_t4 (show tables_1_4[40]? = some _ from rfl) rfl
theorem w_802 : Cond.methodLink "SmallestSpeedLaw" (147 : Nat) ({ cls := "SmallestSpeed", name := "count", desc := "(I)I" } : Jvm.MethodName) ∈ tb := tb_t4 (show tables_1_4[41]? = some _ from rfl) rfl
theorem w_803 : Cond.instanceMethod ({ cls := "SmallestSpeed", name := "count", desc := "(I)I" } : Jvm.MethodName) ∈ tb := tb_t4 (show tables_1_4[42]? = some _ from rfl) rfl
theorem w_804 : Cond.selects "SmallestSpeed" ({ cls := "SmallestSpeed", name := "count", desc := "(I)I" } : Jvm.MethodName) ({ cls := "SmallestSpeed", name := "count", desc := "(I)I" } : Jvm.MethodName) ∈ tb := tb_t4 (show tables_1_4[43]? = some _ from rfl) rfl
theorem w_805 : Cond.code ({ cls := "SmallestSpeed", name := "count", desc := "(I)I" } : Jvm.MethodName) prog_1_method_34_code (2 : Nat) (some FieldType.int) ∈ tb := tb_t4 (show tables_1_4[44]? = some _ from rfl) rfl
theorem w_806 : Cond.methodLink "SmallestSpeed" (252 : Nat) ({ cls := "SmallestSpeed", name := "countOf", desc := "(I)I" } : Jvm.MethodName) ∈ tb := tb_t4 (show tables_1_4[45]? = some _ from rfl) rfl
theorem w_808 : Cond.instanceMethod ({ cls := "SmallestSpeed", name := "countOf", desc := "(I)I" } : Jvm.MethodName) ∈ tb := tb_t4 (show tables_1_4[47]? = some _ from rfl) rfl
theorem w_809 : Cond.code ({ cls := "SmallestSpeed", name := "countOf", desc := "(I)I" } : Jvm.MethodName) prog_1_method_36_code (2 : Nat) (some FieldType.int) ∈ tb := tb_t4 (show tables_1_4[48]? = some _ from rfl) rfl
theorem w_810 : Cond.methodLink "SmallestSpeedLaw" (151 : Nat) ({ cls := "SmallestSpeed", name := "digest", desc := "()J" } : Jvm.MethodName) ∈ tb := tb_t4 (show tables_1_4[49]? = some _ from rfl) rfl
theorem w_811 : Cond.instanceMethod ({ cls := "SmallestSpeed", name := "digest", desc := "()J" } : Jvm.MethodName) ∈ tb := tb_t4 (show tables_1_4[50]? = some _ from rfl) rfl
theorem w_812 : Cond.selects "SmallestSpeed" ({ cls := "SmallestSpeed", name := "digest", desc := "()J" } : Jvm.MethodName) ({ cls := "SmallestSpeed", name := "digest", desc := "()J" } : Jvm.MethodName) ∈ tb := tb_t4 (show tables_1_4[51]? = some _ from rfl) rfl
theorem w_813 : Cond.code ({ cls := "SmallestSpeed", name := "digest", desc := "()J" } : Jvm.MethodName) prog_1_method_35_code (4 : Nat) (some FieldType.long) ∈ tb := tb_t4 (show tables_1_4[52]? = some _ from rfl) rfl
theorem w_814 : Cond.constantLong "SmallestSpeed" (255 : Nat) (977 : Int64) ∈ tb := tb_t4 (show tables_1_4[53]? = some _ from rfl) rfl
theorem w_815 : Cond.constantLong "SmallestSpeed" (257 : Nat) (31 : Int64) ∈ tb := tb_t4 (show tables_1_4[54]? = some _ from rfl) rfl
theorem w_816 : Cond.methodLink "SmallestSpeed" (259 : Nat) ({ cls := "SmallestSpeed$Road", name := "digestOn", desc := "(J)J" } : Jvm.MethodName) ∈ tb := tb_t4 (show tables_1_4[55]? = some _ from rfl) rfl
theorem w_817 : Cond.instanceMethod ({ cls := "SmallestSpeed$Road", name := "digestOn", desc := "(J)J" } : Jvm.MethodName) ∈ tb := tb_t4 (show tables_1_4[56]? = some _ from rfl) rfl
theorem w_818 : Cond.selects "SmallestSpeed$Road" ({ cls := "SmallestSpeed$Road", name := "digestOn", desc := "(J)J" } : Jvm.MethodName) ({ cls := "SmallestSpeed$Road", name := "digestOn", desc := "(J)J" } : Jvm.MethodName) ∈ tb := tb_t4 (show tables_1_4[57]? = some _ from rfl) rfl
theorem w_819 : Cond.code ({ cls := "SmallestSpeed$Road", name := "digestOn", desc := "(J)J" } : Jvm.MethodName) prog_8_method_10_code (6 : Nat) (some FieldType.long) ∈ tb := tb_t4 (show tables_1_4[58]? = some _ from rfl) rfl
theorem w_820 : Cond.constantLong "SmallestSpeed$Road" (74 : Nat) (31 : Int64) ∈ tb := tb_t4 (show tables_1_4[59]? = some _ from rfl) rfl
theorem w_821 : Cond.classLink "SmallestSpeedLaw" (10 : Nat) "SmallestSpeedModel" ∈ tb := tb_t4 (show tables_1_4[60]? = some _ from rfl) rfl
theorem w_822 : Cond.instantiable "SmallestSpeedModel" (22 : Nat) ∈ tb := tb_t4 (show tables_1_4[61]? = some _ from rfl) rfl
theorem w_823 : Cond.methodLink "SmallestSpeedLaw" (12 : Nat) ({ cls := "SmallestSpeedModel", name := "<init>", desc := "()V" } : Jvm.MethodName) ∈ tb := tb_t4 (show tables_1_4[62]? = some _ from rfl) rfl
theorem w_824 : Cond.instanceMethod ({ cls := "SmallestSpeedModel", name := "<init>", desc := "()V" } : Jvm.MethodName) ∈ tb := tb_t4 (show tables_1_4[63]? = some _ from rfl) rfl
theorem w_825 : Cond.code ({ cls := "SmallestSpeedModel", name := "<init>", desc := "()V" } : Jvm.MethodName) prog_14_method_1_code (1 : Nat) none ∈ tb := tb_t4 (show tables_1_4[64]? = some _ from rfl) rfl
theorem w_826 : Cond.methodLink "SmallestSpeedModel" (1 : Nat) ({ cls := "java/lang/Object", name := "<init>", desc := "()V" } : Jvm.MethodName) ∈ tb := tb_t4 (show tables_1_4[65]? = some _ from rfl) rfl
theorem w_827 : Cond.methodLink "SmallestSpeedModel" (57 : Nat) ({ cls := "SmallestSpeedModel", name := "begin", desc := "([III)V" } : Jvm.MethodName) ∈ tb := tb_t4 (show tables_1_4[66]? = some _ from rfl) rfl
theorem w_828 : Cond.static ({ cls := "SmallestSpeedModel", name := "begin", desc := "([III)V" } : Jvm.MethodName) ∈ tb := tb_t4 (show tables_1_4[67]? = some _ from rfl) rfl
theorem w_829 : Cond.code ({ cls := "SmallestSpeedModel", name := "begin", desc := "([III)V" } : Jvm.MethodName) prog_14_method_8_code (4 : Nat) none ∈ tb := tb_t4 (show tables_1_4[68]? = some _ from rfl) rfl
theorem w_830 : Cond.fieldLink "SmallestSpeedModel" (7 : Nat) "SmallestSpeedModel" "now" "[I" ∈ tb := tb_t4 (show tables_1_4[69]? = some _ from rfl) rfl
theorem w_831 : Cond.fieldLink "SmallestSpeedModel" (13 : Nat) "SmallestSpeedModel" "kept" "[I" ∈ tb := tb_t4 (show tables_1_4[70]? = some _ from rfl) rfl
theorem w_832 : Cond.fieldLink "SmallestSpeedModel" (16 : Nat) "SmallestSpeedModel" "isKept" "[Z" ∈ tb := tb_t4 (show tables_1_4[71]? = some _ from rfl) rfl
theorem w_833 : Cond.fieldLink "SmallestSpeedModel" (20 : Nat) "SmallestSpeedModel" "refused" "[I" ∈ tb := tb_t4 (show tables_1_4[72]? = some _ from rfl) rfl
theorem w_834 : Cond.fieldLink "SmallestSpeedModel" (202 : Nat) "SmallestSpeedModel" "above" "J" ∈ tb := tb_t4 (show tables_1_4[73]? = some _ from rfl) rfl
theorem w_835 : Cond.fieldLink "SmallestSpeedModel" (23 : Nat) "SmallestSpeedModel" "below" "J" ∈ tb := tb_t4 (show tables_1_4[74]? = some _ from rfl) rfl
theorem w_836 : Cond.fieldLink "SmallestSpeedModel" (27 : Nat) "SmallestSpeedModel" "kinds" "[I" ∈ tb := tb_t4 (show tables_1_4[75]? = some _ from rfl) rfl
theorem w_837 : Cond.fieldLink "SmallestSpeedModel" (30 : Nat) "SmallestSpeedModel" "cells" "[I" ∈ tb := tb_t4 (show tables_1_4[76]? = some _ from rfl) rfl
theorem w_838 : Cond.fieldLink "SmallestSpeedModel" (115 : Nat) "SmallestSpeedModel" "present" "I" ∈ tb := tb_t4 (show tables_1_4[77]? = some _ from rfl) rfl
theorem w_839 : Cond.fieldLink "SmallestSpeedModel" (33 : Nat) "SmallestSpeedModel" "canBe" "[Z" ∈ tb := tb_t4 (show tables_1_4[78]? = some _ from rfl) rfl
theorem w_840 : Cond.fieldLink "SmallestSpeedModel" (36 : Nat) "SmallestSpeedModel" "canBeThen" "[Z" ∈ tb := tb_t4 (show tables_1_4[79]? = some _ from rfl) rfl
theorem w_841 : Cond.fieldLink "SmallestSpeedModel" (39 : Nat) "SmallestSpeedModel" "gets" "[I" ∈ tb := tb_t4 (show tables_1_4[80]? = some _ from rfl) rfl
theorem w_842 : Cond.fieldLink "SmallestSpeedModel" (42 : Nat) "SmallestSpeedModel" "fits" "[Z" ∈ tb := tb_t4 (show tables_1_4[81]? = some _ from rfl) rfl
theorem w_843 : Cond.fieldLink "SmallestSpeedModel" (45 : Nat) "SmallestSpeedModel" "manyLike" "[I" ∈ tb := tb_t4 (show tables_1_4[82]? = some _ from rfl) rfl
theorem w_844 : Cond.fieldLink "SmallestSpeedModel" (48 : Nat) "SmallestSpeedModel" "bytes" "[I" ∈ tb := tb_t4 (show tables_1_4[83]? = some _ from rfl) rfl
theorem w_845 : Cond.fieldLink "SmallestSpeedModel" (225 : Nat) "SmallestSpeedModel" "bytesLong" "I" ∈ tb := tb_t4 (show tables_1_4[84]? = some _ from rfl) rfl
theorem w_846 : Cond.fieldLink "SmallestSpeedModel" (236 : Nat) "SmallestSpeedModel" "tokenAt" "I" ∈ tb := tb_t4 (show tables_1_4[85]? = some _ from rfl) rfl
theorem w_847 : Cond.fieldLink "SmallestSpeedModel" (239 : Nat) "SmallestSpeedModel" "tokenLong" "I" ∈ tb := tb_t4 (show tables_1_4[86]? = some _ from rfl) rfl
theorem w_848 : Cond.fieldLink "SmallestSpeedModel" (242 : Nat) "SmallestSpeedModel" "token" "I" ∈ tb := tb_t4 (show tables_1_4[87]? = some _ from rfl) rfl
theorem w_849 : Cond.fieldLink "SmallestSpeedModel" (245 : Nat) "SmallestSpeedModel" "value" "I" ∈ tb := tb_t4 (show tables_1_4[88]? = some _ from rfl) rfl
theorem w_850 : Cond.fieldLink "SmallestSpeedModel" (51 : Nat) "SmallestSpeedModel" "anew" "[I" ∈ tb := tb_t4 (show tables_1_4[89]? = some _ from rfl) rfl
theorem w_851 : Cond.fieldLink "SmallestSpeedModel" (54 : Nat) "SmallestSpeedModel" "values" "[I" ∈ tb := tb_t4 (show tables_1_4[90]? = some _ from rfl) rfl
theorem w_852 : Cond.laysFinal "SmallestSpeedModel" "SmallestSpeedModel" "now" "[I" ∈ tb := tb_t4 (show tables_1_4[91]? = some _ from rfl) rfl
theorem w_854 : Cond.laysFinal "SmallestSpeedModel" "SmallestSpeedModel" "kept" "[I" ∈ tb := tb_t4 (show tables_1_4[93]? = some _ from rfl) rfl
theorem w_856 : Cond.laysFinal "SmallestSpeedModel" "SmallestSpeedModel" "isKept" "[Z" ∈ tb := tb_t4 (show tables_1_4[95]? = some _ from rfl) rfl
theorem w_858 : Cond.laysFinal "SmallestSpeedModel" "SmallestSpeedModel" "refused" "[I" ∈ tb := tb_t4 (show tables_1_4[97]? = some _ from rfl) rfl
theorem w_860 : Cond.lays "SmallestSpeedModel" "SmallestSpeedModel" "above" "J" ∈ tb := tb_t4 (show tables_1_4[99]? = some _ from rfl) rfl
theorem w_862 : Cond.lays "SmallestSpeedModel" "SmallestSpeedModel" "below" "J" ∈ tb := tb_t4 (show tables_1_4[101]? = some _ from rfl) rfl
theorem w_864 : Cond.laysFinal "SmallestSpeedModel" "SmallestSpeedModel" "kinds" "[I" ∈ tb := tb_t4 (show tables_1_4[103]? = some _ from rfl) rfl
theorem w_866 : Cond.laysFinal "SmallestSpeedModel" "SmallestSpeedModel" "cells" "[I" ∈ tb := tb_t4 (show tables_1_4[105]? = some _ from rfl) rfl
theorem w_868 : Cond.lays "SmallestSpeedModel" "SmallestSpeedModel" "present" "I" ∈ tb := tb_t4 (show tables_1_4[107]? = some _ from rfl) rfl
theorem w_870 : Cond.laysFinal "SmallestSpeedModel" "SmallestSpeedModel" "canBe" "[Z" ∈ tb := tb_t4 (show tables_1_4[109]? = some _ from rfl) rfl
theorem w_872 : Cond.laysFinal "SmallestSpeedModel" "SmallestSpeedModel" "canBeThen" "[Z" ∈ tb := tb_t4 (show tables_1_4[111]? = some _ from rfl) rfl
theorem w_874 : Cond.laysFinal "SmallestSpeedModel" "SmallestSpeedModel" "gets" "[I" ∈ tb := tb_t4 (show tables_1_4[113]? = some _ from rfl) rfl
theorem w_876 : Cond.laysFinal "SmallestSpeedModel" "SmallestSpeedModel" "fits" "[Z" ∈ tb := tb_t4 (show tables_1_4[115]? = some _ from rfl) rfl
theorem w_878 : Cond.laysFinal "SmallestSpeedModel" "SmallestSpeedModel" "manyLike" "[I" ∈ tb := tb_t4 (show tables_1_4[117]? = some _ from rfl) rfl
theorem w_880 : Cond.laysFinal "SmallestSpeedModel" "SmallestSpeedModel" "bytes" "[I" ∈ tb := tb_t4 (show tables_1_4[119]? = some _ from rfl) rfl
theorem w_882 : Cond.lays "SmallestSpeedModel" "SmallestSpeedModel" "bytesLong" "I" ∈ tb := tb_t4 (show tables_1_4[121]? = some _ from rfl) rfl
theorem w_884 : Cond.lays "SmallestSpeedModel" "SmallestSpeedModel" "tokenAt" "I" ∈ tb := tb_t4 (show tables_1_4[123]? = some _ from rfl) rfl
theorem w_886 : Cond.lays "SmallestSpeedModel" "SmallestSpeedModel" "tokenLong" "I" ∈ tb := tb_t4 (show tables_1_4[125]? = some _ from rfl) rfl
theorem w_888 : Cond.lays "SmallestSpeedModel" "SmallestSpeedModel" "token" "I" ∈ tb := tb_t4 (show tables_1_4[127]? = some _ from rfl) rfl
theorem w_890 : Cond.lays "SmallestSpeedModel" "SmallestSpeedModel" "value" "I" ∈ tb := tb_t4 (show tables_1_4[129]? = some _ from rfl) rfl
theorem w_892 : Cond.laysFinal "SmallestSpeedModel" "SmallestSpeedModel" "anew" "[I" ∈ tb := tb_t4 (show tables_1_4[131]? = some _ from rfl) rfl
theorem w_894 : Cond.laysFinal "SmallestSpeedModel" "SmallestSpeedModel" "values" "[I" ∈ tb := tb_t4 (show tables_1_4[133]? = some _ from rfl) rfl
theorem w_897 : Cond.methodLink "SmallestSpeedLaw" (17 : Nat) ({ cls := "SmallestSpeedModel", name := "road", desc := "(II)I" } : Jvm.MethodName) ∈ tb := tb_t4 (show tables_1_4[136]? = some _ from rfl) rfl
theorem w_898 : Cond.instanceMethod ({ cls := "SmallestSpeedModel", name := "road", desc := "(II)I" } : Jvm.MethodName) ∈ tb := tb_t4 (show tables_1_4[137]? = some _ from rfl) rfl
theorem w_899 : Cond.selects "SmallestSpeedModel" ({ cls := "SmallestSpeedModel", name := "road", desc := "(II)I" } : Jvm.MethodName) ({ cls := "SmallestSpeedModel", name := "road", desc := "(II)I" } : Jvm.MethodName) ∈ tb := tb_t4 (show tables_1_4[138]? = some _ from rfl) rfl
theorem w_900 : Cond.code ({ cls := "SmallestSpeedModel", name := "road", desc := "(II)I" } : Jvm.MethodName) prog_14_method_15_code (4 : Nat) (some FieldType.int) ∈ tb := tb_t4 (show tables_1_4[139]? = some _ from rfl) rfl
theorem w_901 : Cond.constantLong "SmallestSpeedModel" (69 : Nat) (47 : Int64) ∈ tb := tb_t4 (show tables_1_4[140]? = some _ from rfl) rfl
theorem w_902 : Cond.methodLink "SmallestSpeedModel" (65 : Nat) ({ cls := "SmallestSpeedModel", name := "in", desc := "(JJJ)Z" } : Jvm.MethodName) ∈ tb := tb_t4 (show tables_1_4[141]? = some _ from rfl) rfl
theorem w_903 : Cond.static ({ cls := "SmallestSpeedModel", name := "in", desc := "(JJJ)Z" } : Jvm.MethodName) ∈ tb := tb_t4 (show tables_1_4[142]? = some _ from rfl) rfl
theorem w_904 : Cond.code ({ cls := "SmallestSpeedModel", name := "in", desc := "(JJJ)Z" } : Jvm.MethodName) prog_14_method_3_code (6 : Nat) (some FieldType.boolean) ∈ tb := tb_t4 (show tables_1_4[143]? = some _ from rfl) rfl
theorem w_905 : Cond.constantLong "SmallestSpeedModel" (73 : Nat) (2 : Int64) ∈ tb := tb_t4 (show tables_1_4[144]? = some _ from rfl) rfl
theorem w_906 : Cond.methodLink "SmallestSpeedModel" (75 : Nat) ({ cls := "SmallestSpeedModel", name := "bad", desc := "(I)I" } : Jvm.MethodName) ∈ tb := tb_t4 (show tables_1_4[145]? = some _ from rfl) rfl
theorem w_908 : Cond.instanceMethod ({ cls := "SmallestSpeedModel", name := "bad", desc := "(I)I" } : Jvm.MethodName) ∈ tb := tb_t4 (show tables_1_4[147]? = some _ from rfl) rfl
theorem w_909 : Cond.code ({ cls := "SmallestSpeedModel", name := "bad", desc := "(I)I" } : Jvm.MethodName) prog_14_method_4_code (2 : Nat) (some FieldType.int) ∈ tb := tb_t4 (show tables_1_4[148]? = some _ from rfl) rfl
theorem w_910 : Cond.methodLink "SmallestSpeedModel" (61 : Nat) ({ cls := "SmallestSpeedModel", name := "children", desc := "()I" } : Jvm.MethodName) ∈ tb := tb_t4 (show tables_1_4[149]? = some _ from rfl) rfl
theorem w_912 : Cond.instanceMethod ({ cls := "SmallestSpeedModel", name := "children", desc := "()I" } : Jvm.MethodName) ∈ tb := tb_t4 (show tables_1_4[151]? = some _ from rfl) rfl
theorem w_913 : Cond.code ({ cls := "SmallestSpeedModel", name := "children", desc := "()I" } : Jvm.MethodName) prog_14_method_9_code (1 : Nat) (some FieldType.int) ∈ tb := tb_t4 (show tables_1_4[152]? = some _ from rfl) rfl
theorem w_914 : Cond.methodLink "SmallestSpeedLaw" (22 : Nat) ({ cls := "SmallestSpeedModel", name := "rule", desc := "(I)I" } : Jvm.MethodName) ∈ tb := tb_t4 (show tables_1_4[153]? = some _ from rfl) rfl
theorem w_915 : Cond.instanceMethod ({ cls := "SmallestSpeedModel", name := "rule", desc := "(I)I" } : Jvm.MethodName) ∈ tb := tb_t4 (show tables_1_4[154]? = some _ from rfl) rfl
theorem w_916 : Cond.selects "SmallestSpeedModel" ({ cls := "SmallestSpeedModel", name := "rule", desc := "(I)I" } : Jvm.MethodName) ({ cls := "SmallestSpeedModel", name := "rule", desc := "(I)I" } : Jvm.MethodName) ∈ tb := tb_t4 (show tables_1_4[155]? = some _ from rfl) rfl
theorem w_917 : Cond.code ({ cls := "SmallestSpeedModel", name := "rule", desc := "(I)I" } : Jvm.MethodName) prog_14_method_16_code (3 : Nat) (some FieldType.int) ∈ tb := tb_t4 (show tables_1_4[156]? = some _ from rfl) rfl
theorem w_918 : Cond.methodLink "SmallestSpeedLaw" (26 : Nat) ({ cls := "SmallestSpeedModel", name := "sight", desc := "(I)I" } : Jvm.MethodName) ∈ tb := tb_t4 (show tables_1_4[157]? = some _ from rfl) rfl
theorem w_919 : Cond.instanceMethod ({ cls := "SmallestSpeedModel", name := "sight", desc := "(I)I" } : Jvm.MethodName) ∈ tb := tb_t4 (show tables_1_4[158]? = some _ from rfl) rfl
theorem w_920 : Cond.selects "SmallestSpeedModel" ({ cls := "SmallestSpeedModel", name := "sight", desc := "(I)I" } : Jvm.MethodName) ({ cls := "SmallestSpeedModel", name := "sight", desc := "(I)I" } : Jvm.MethodName) ∈ tb := tb_t4 (show tables_1_4[159]? = some _ from rfl) rfl
theorem w_921 : Cond.code ({ cls := "SmallestSpeedModel", name := "sight", desc := "(I)I" } : Jvm.MethodName) prog_14_method_17_code (3 : Nat) (some FieldType.int) ∈ tb := tb_t4 (show tables_1_4[160]? = some _ from rfl) rfl
theorem w_922 : Cond.methodLink "SmallestSpeedLaw" (31 : Nat) ({ cls := "SmallestSpeedModel", name := "child", desc := "(IIIII)I" } : Jvm.MethodName) ∈ tb := tb_t4 (show tables_1_4[161]? = some _ from rfl) rfl
theorem w_923 : Cond.instanceMethod ({ cls := "SmallestSpeedModel", name := "child", desc := "(IIIII)I" } : Jvm.MethodName) ∈ tb := tb_t4 (show tables_1_4[162]? = some _ from rfl) rfl
theorem w_924 : Cond.selects "SmallestSpeedModel" ({ cls := "SmallestSpeedModel", name := "child", desc := "(IIIII)I" } : Jvm.MethodName) ({ cls := "SmallestSpeedModel", name := "child", desc := "(IIIII)I" } : Jvm.MethodName) ∈ tb := tb_t4 (show tables_1_4[163]? = some _ from rfl) rfl
theorem w_925 : Cond.code ({ cls := "SmallestSpeedModel", name := "child", desc := "(IIIII)I" } : Jvm.MethodName) prog_14_method_19_code (6 : Nat) (some FieldType.int) ∈ tb := tb_t4 (show tables_1_4[164]? = some _ from rfl) rfl
theorem w_926 : Cond.constantLong "SmallestSpeedModel" (79 : Nat) (5 : Int64) ∈ tb := tb_t4 (show tables_1_4[165]? = some _ from rfl) rfl
theorem w_927 : Cond.constantLong "SmallestSpeedModel" (81 : Nat) (9 : Int64) ∈ tb := tb_t4 (show tables_1_4[166]? = some _ from rfl) rfl
theorem w_928 : Cond.methodLink "SmallestSpeedModel" (83 : Nat) ({ cls := "SmallestSpeedModel", name := "isCell", desc := "(I)Z" } : Jvm.MethodName) ∈ tb := tb_t4 (show tables_1_4[167]? = some _ from rfl) rfl
theorem w_929 : Cond.static ({ cls := "SmallestSpeedModel", name := "isCell", desc := "(I)Z" } : Jvm.MethodName) ∈ tb := tb_t4 (show tables_1_4[168]? = some _ from rfl) rfl
theorem w_930 : Cond.code ({ cls := "SmallestSpeedModel", name := "isCell", desc := "(I)Z" } : Jvm.MethodName) prog_14_method_11_code (1 : Nat) (some FieldType.boolean) ∈ tb := tb_t4 (show tables_1_4[169]? = some _ from rfl) rfl
theorem w_931 : Cond.constantLong "SmallestSpeedModel" (87 : Nat) (3 : Int64) ∈ tb := tb_t4 (show tables_1_4[170]? = some _ from rfl) rfl
theorem w_932 : Cond.constantLong "SmallestSpeedModel" (89 : Nat) (60 : Int64) ∈ tb := tb_t4 (show tables_1_4[171]? = some _ from rfl) rfl
theorem w_933 : Cond.methodLink "SmallestSpeedModel" (91 : Nat) ({ cls := "SmallestSpeedModel", name := "full", desc := "()I" } : Jvm.MethodName) ∈ tb := tb_t4 (show tables_1_4[172]? = some _ from rfl) rfl
theorem w_935 : Cond.instanceMethod ({ cls := "SmallestSpeedModel", name := "full", desc := "()I" } : Jvm.MethodName) ∈ tb := tb_t4 (show tables_1_4[174]? = some _ from rfl) rfl
theorem w_936 : Cond.code ({ cls := "SmallestSpeedModel", name := "full", desc := "()I" } : Jvm.MethodName) prog_14_method_6_code (1 : Nat) (some FieldType.int) ∈ tb := tb_t4 (show tables_1_4[175]? = some _ from rfl) rfl
theorem w_937 : Cond.methodLink "SmallestSpeedModel" (94 : Nat) ({ cls := "SmallestSpeedModel", name := "layChild", desc := "([IIIIII)V" } : Jvm.MethodName) ∈ tb := tb_t4 (show tables_1_4[176]? = some _ from rfl) rfl
theorem w_938 : Cond.static ({ cls := "SmallestSpeedModel", name := "layChild", desc := "([IIIIII)V" } : Jvm.MethodName) ∈ tb := tb_t4 (show tables_1_4[177]? = some _ from rfl) rfl
theorem w_939 : Cond.code ({ cls := "SmallestSpeedModel", name := "layChild", desc := "([IIIIII)V" } : Jvm.MethodName) prog_14_method_18_code (7 : Nat) none ∈ tb := tb_t4 (show tables_1_4[178]? = some _ from rfl) rfl
theorem w_940 : Cond.methodLink "SmallestSpeedLaw" (35 : Nat) ({ cls := "SmallestSpeedModel", name := "stand", desc := "(II)I" } : Jvm.MethodName) ∈ tb := tb_t4 (show tables_1_4[179]? = some _ from rfl) rfl
theorem w_941 : Cond.instanceMethod ({ cls := "SmallestSpeedModel", name := "stand", desc := "(II)I" } : Jvm.MethodName) ∈ tb := tb_t4 (show tables_1_4[180]? = some _ from rfl) rfl
theorem w_942 : Cond.selects "SmallestSpeedModel" ({ cls := "SmallestSpeedModel", name := "stand", desc := "(II)I" } : Jvm.MethodName) ({ cls := "SmallestSpeedModel", name := "stand", desc := "(II)I" } : Jvm.MethodName) ∈ tb := tb_t4 (show tables_1_4[181]? = some _ from rfl) rfl
theorem w_943 : Cond.code ({ cls := "SmallestSpeedModel", name := "stand", desc := "(II)I" } : Jvm.MethodName) prog_14_method_22_code (3 : Nat) (some FieldType.int) ∈ tb := tb_t4 (show tables_1_4[182]? = some _ from rfl) rfl
theorem w_944 : Cond.methodLink "SmallestSpeedModel" (105 : Nat) ({ cls := "SmallestSpeedModel", name := "isChild", desc := "(I)Z" } : Jvm.MethodName) ∈ tb := tb_t4 (show tables_1_4[183]? = some _ from rfl) rfl
theorem w_946 : Cond.instanceMethod ({ cls := "SmallestSpeedModel", name := "isChild", desc := "(I)Z" } : Jvm.MethodName) ∈ tb := tb_t4 (show tables_1_4[185]? = some _ from rfl) rfl
theorem w_947 : Cond.code ({ cls := "SmallestSpeedModel", name := "isChild", desc := "(I)Z" } : Jvm.MethodName) prog_14_method_10_code (2 : Nat) (some FieldType.boolean) ∈ tb := tb_t4 (show tables_1_4[186]? = some _ from rfl) rfl
theorem w_948 : Cond.methodLink "SmallestSpeedModel" (108 : Nat) ({ cls := "SmallestSpeedModel", name := "tellAnew", desc := "(III)I" } : Jvm.MethodName) ∈ tb := tb_t4 (show tables_1_4[187]? = some _ from rfl) rfl
theorem w_950 : Cond.instanceMethod ({ cls := "SmallestSpeedModel", name := "tellAnew", desc := "(III)I" } : Jvm.MethodName) ∈ tb := tb_t4 (show tables_1_4[189]? = some _ from rfl) rfl
theorem w_951 : Cond.code ({ cls := "SmallestSpeedModel", name := "tellAnew", desc := "(III)I" } : Jvm.MethodName) prog_14_method_21_code (5 : Nat) (some FieldType.int) ∈ tb := tb_t4 (show tables_1_4[190]? = some _ from rfl) rfl
theorem w_952 : Cond.methodLink "SmallestSpeedModel" (98 : Nat) ({ cls := "SmallestSpeedModel", name := "get", desc := "(II)I" } : Jvm.MethodName) ∈ tb := tb_t4 (show tables_1_4[191]? = some _ from rfl) rfl
theorem w_954 : Cond.instanceMethod ({ cls := "SmallestSpeedModel", name := "get", desc := "(II)I" } : Jvm.MethodName) ∈ tb := tb_t4 (show tables_1_4[193]? = some _ from rfl) rfl
theorem w_955 : Cond.code ({ cls := "SmallestSpeedModel", name := "get", desc := "(II)I" } : Jvm.MethodName) prog_14_method_13_code (3 : Nat) (some FieldType.int) ∈ tb := tb_t4 (show tables_1_4[194]? = some _ from rfl) rfl
theorem w_956 : Cond.methodLink "SmallestSpeedModel" (102 : Nat) ({ cls := "SmallestSpeedModel", name := "keep", desc := "()V" } : Jvm.MethodName) ∈ tb := tb_t4 (show tables_1_4[195]? = some _ from rfl) rfl
theorem w_958 : Cond.instanceMethod ({ cls := "SmallestSpeedModel", name := "keep", desc := "()V" } : Jvm.MethodName) ∈ tb := tb_t4 (show tables_1_4[197]? = some _ from rfl) rfl
theorem w_959 : Cond.code ({ cls := "SmallestSpeedModel", name := "keep", desc := "()V" } : Jvm.MethodName) prog_14_method_20_code (3 : Nat) none ∈ tb := tb_t4 (show tables_1_4[198]? = some _ from rfl) rfl
theorem w_960 : Cond.methodLink "SmallestSpeedLaw" (39 : Nat) ({ cls := "SmallestSpeedModel", name := "bed", desc := "(II)I" } : Jvm.MethodName) ∈ tb := tb_t4 (show tables_1_4[199]? = some _ from rfl) rfl
theorem w_961 : Cond.instanceMethod ({ cls := "SmallestSpeedModel", name := "bed", desc := "(II)I" } : Jvm.MethodName) ∈ tb := tb_t4 (show tables_1_4[200]? = some _ from rfl) rfl
theorem w_962 : Cond.selects "SmallestSpeedModel" ({ cls := "SmallestSpeedModel", name := "bed", desc := "(II)I" } : Jvm.MethodName) ({ cls := "SmallestSpeedModel", name := "bed", desc := "(II)I" } : Jvm.MethodName) ∈ tb := tb_t4 (show tables_1_4[201]? = some _ from rfl) rfl
theorem w_963 : Cond.code ({ cls := "SmallestSpeedModel", name := "bed", desc := "(II)I" } : Jvm.MethodName) prog_14_method_23_code (3 : Nat) (some FieldType.int) ∈ tb := tb_t4 (show tables_1_4[202]? = some _ from rfl) rfl
theorem w_964 : Cond.methodLink "SmallestSpeedLaw" (44 : Nat) ({ cls := "SmallestSpeedModel", name := "undo", desc := "()I" } : Jvm.MethodName) ∈ tb := tb_t4 (show tables_1_4[203]? = some _ from rfl) rfl
theorem w_965 : Cond.instanceMethod ({ cls := "SmallestSpeedModel", name := "undo", desc := "()I" } : Jvm.MethodName) ∈ tb := tb_t4 (show tables_1_4[204]? = some _ from rfl) rfl
theorem w_966 : Cond.selects "SmallestSpeedModel" ({ cls := "SmallestSpeedModel", name := "undo", desc := "()I" } : Jvm.MethodName) ({ cls := "SmallestSpeedModel", name := "undo", desc := "()I" } : Jvm.MethodName) ∈ tb := tb_t4 (show tables_1_4[205]? = some _ from rfl) rfl
theorem w_967 : Cond.code ({ cls := "SmallestSpeedModel", name := "undo", desc := "()I" } : Jvm.MethodName) prog_14_method_24_code (3 : Nat) (some FieldType.int) ∈ tb := tb_t4 (show tables_1_4[206]? = some _ from rfl) rfl
theorem w_968 : Cond.methodLink "SmallestSpeedModel" (112 : Nat) ({ cls := "SmallestSpeedModel", name := "no", desc := "()I" } : Jvm.MethodName) ∈ tb := tb_t4 (show tables_1_4[207]? = some _ from rfl) rfl
theorem w_970 : Cond.instanceMethod ({ cls := "SmallestSpeedModel", name := "no", desc := "()I" } : Jvm.MethodName) ∈ tb := tb_t4 (show tables_1_4[209]? = some _ from rfl) rfl
theorem w_971 : Cond.code ({ cls := "SmallestSpeedModel", name := "no", desc := "()I" } : Jvm.MethodName) prog_14_method_5_code (1 : Nat) (some FieldType.int) ∈ tb := tb_t4 (show tables_1_4[210]? = some _ from rfl) rfl
theorem w_972 : Cond.methodLink "SmallestSpeedLaw" (61 : Nat) ({ cls := "SmallestSpeedModel", name := "of", desc := "(III)I" } : Jvm.MethodName) ∈ tb := tb_t4 (show tables_1_4[211]? = some _ from rfl) rfl
theorem w_973 : Cond.instanceMethod ({ cls := "SmallestSpeedModel", name := "of", desc := "(III)I" } : Jvm.MethodName) ∈ tb := tb_t4 (show tables_1_4[212]? = some _ from rfl) rfl
theorem w_974 : Cond.selects "SmallestSpeedModel" ({ cls := "SmallestSpeedModel", name := "of", desc := "(III)I" } : Jvm.MethodName) ({ cls := "SmallestSpeedModel", name := "of", desc := "(III)I" } : Jvm.MethodName) ∈ tb := tb_t4 (show tables_1_4[213]? = some _ from rfl) rfl
theorem w_975 : Cond.code ({ cls := "SmallestSpeedModel", name := "of", desc := "(III)I" } : Jvm.MethodName) prog_14_method_36_code (4 : Nat) (some FieldType.int) ∈ tb := tb_t4 (show tables_1_4[214]? = some _ from rfl) rfl
theorem w_976 : Cond.methodLink "SmallestSpeedModel" (149 : Nat) ({ cls := "SmallestSpeedModel", name := "isMinute", desc := "(I)Z" } : Jvm.MethodName) ∈ tb := tb_t4 (show tables_1_4[215]? = some _ from rfl) rfl
theorem w_977 : Cond.static ({ cls := "SmallestSpeedModel", name := "isMinute", desc := "(I)Z" } : Jvm.MethodName) ∈ tb := tb_t4 (show tables_1_4[216]? = some _ from rfl) rfl
theorem w_978 : Cond.code ({ cls := "SmallestSpeedModel", name := "isMinute", desc := "(I)Z" } : Jvm.MethodName) prog_14_method_12_code (1 : Nat) (some FieldType.boolean) ∈ tb := tb_t4 (show tables_1_4[217]? = some _ from rfl) rfl
theorem w_979 : Cond.constantLong "SmallestSpeedModel" (71 : Nat) (59 : Int64) ∈ tb := tb_t4 (show tables_1_4[218]? = some _ from rfl) rfl
theorem w_980 : Cond.methodLink "SmallestSpeedModel" (152 : Nat) ({ cls := "SmallestSpeedModel", name := "all", desc := "()I" } : Jvm.MethodName) ∈ tb := tb_t4 (show tables_1_4[219]? = some _ from rfl) rfl
theorem w_982 : Cond.instanceMethod ({ cls := "SmallestSpeedModel", name := "all", desc := "()I" } : Jvm.MethodName) ∈ tb := tb_t4 (show tables_1_4[221]? = some _ from rfl) rfl
theorem w_983 : Cond.code ({ cls := "SmallestSpeedModel", name := "all", desc := "()I" } : Jvm.MethodName) prog_14_method_14_code (1 : Nat) (some FieldType.int) ∈ tb := tb_t4 (show tables_1_4[222]? = some _ from rfl) rfl
theorem w_984 : Cond.methodLink "SmallestSpeedModel" (155 : Nat) ({ cls := "SmallestSpeedModel", name := "layHand", desc := "(I)V" } : Jvm.MethodName) ∈ tb := tb_t4 (show tables_1_4[223]? = some _ from rfl) rfl
theorem w_986 : Cond.instanceMethod ({ cls := "SmallestSpeedModel", name := "layHand", desc := "(I)V" } : Jvm.MethodName) ∈ tb := tb_t4 (show tables_1_4[225]? = some _ from rfl) rfl
theorem w_987 : Cond.code ({ cls := "SmallestSpeedModel", name := "layHand", desc := "(I)V" } : Jvm.MethodName) prog_14_method_25_code (3 : Nat) none ∈ tb := tb_t4 (show tables_1_4[226]? = some _ from rfl) rfl
theorem w_988 : Cond.methodLink "SmallestSpeedModel" (129 : Nat) ({ cls := "SmallestSpeedModel", name := "cellOf", desc := "(II)I" } : Jvm.MethodName) ∈ tb := tb_t4 (show tables_1_4[227]? = some _ from rfl) rfl
theorem w_990 : Cond.instanceMethod ({ cls := "SmallestSpeedModel", name := "cellOf", desc := "(II)I" } : Jvm.MethodName) ∈ tb := tb_t4 (show tables_1_4[229]? = some _ from rfl) rfl
theorem w_991 : Cond.code ({ cls := "SmallestSpeedModel", name := "cellOf", desc := "(II)I" } : Jvm.MethodName) prog_14_method_26_code (5 : Nat) (some FieldType.int) ∈ tb := tb_t4 (show tables_1_4[230]? = some _ from rfl) rfl
theorem w_992 : Cond.methodLink "SmallestSpeedModel" (125 : Nat) ({ cls := "SmallestSpeedModel", name := "isOut", desc := "(II)Z" } : Jvm.MethodName) ∈ tb := tb_t4 (show tables_1_4[231]? = some _ from rfl) rfl
theorem w_994 : Cond.instanceMethod ({ cls := "SmallestSpeedModel", name := "isOut", desc := "(II)Z" } : Jvm.MethodName) ∈ tb := tb_t4 (show tables_1_4[233]? = some _ from rfl) rfl
theorem w_995 : Cond.code ({ cls := "SmallestSpeedModel", name := "isOut", desc := "(II)Z" } : Jvm.MethodName) prog_14_method_30_code (3 : Nat) (some FieldType.boolean) ∈ tb := tb_t4 (show tables_1_4[234]? = some _ from rfl) rfl
theorem w_996 : Cond.methodLink "SmallestSpeedModel" (140 : Nat) ({ cls := "SmallestSpeedModel", name := "countsOf", desc := "(II)I" } : Jvm.MethodName) ∈ tb := tb_t4 (show tables_1_4[235]? = some _ from rfl) rfl
theorem w_998 : Cond.instanceMethod ({ cls := "SmallestSpeedModel", name := "countsOf", desc := "(II)I" } : Jvm.MethodName) ∈ tb := tb_t4 (show tables_1_4[237]? = some _ from rfl) rfl
theorem w_999 : Cond.code ({ cls := "SmallestSpeedModel", name := "countsOf", desc := "(II)I" } : Jvm.MethodName) prog_14_method_29_code (5 : Nat) (some FieldType.int) ∈ tb := tb_t4 (show tables_1_4[238]? = some _ from rfl) rfl
theorem w_1000 : Cond.methodLink "SmallestSpeedModel" (119 : Nat) ({ cls := "SmallestSpeedModel", name := "least", desc := "(II)I" } : Jvm.MethodName) ∈ tb := tb_t4 (show tables_1_4[239]? = some _ from rfl) rfl
theorem w_1001 : Cond.static ({ cls := "SmallestSpeedModel", name := "least", desc := "(II)I" } : Jvm.MethodName) ∈ tb := tb_t5 (show tables_1_5[0]? = some _ from rfl) rfl
theorem w_1002 : Cond.code ({ cls := "SmallestSpeedModel", name := "least", desc := "(II)I" } : Jvm.MethodName) prog_14_method_27_code (2 : Nat) (some FieldType.int) ∈ tb := tb_t5 (show tables_1_5[1]? = some _ from rfl) rfl
theorem w_1003 : Cond.methodLink "SmallestSpeedModel" (122 : Nat) ({ cls := "SmallestSpeedModel", name := "most", desc := "(II)I" } : Jvm.MethodName) ∈ tb := tb_t5 (show tables_1_5[2]? = some _ from rfl) rfl
theorem w_1004 : Cond.static ({ cls := "SmallestSpeedModel", name := "most", desc := "(II)I" } : Jvm.MethodName) ∈ tb := tb_t5 (show tables_1_5[3]? = some _ from rfl) rfl
theorem w_1005 : Cond.code ({ cls := "SmallestSpeedModel", name := "most", desc := "(II)I" } : Jvm.MethodName) prog_14_method_28_code (2 : Nat) (some FieldType.int) ∈ tb := tb_t5 (show tables_1_5[4]? = some _ from rfl) rfl
theorem w_1006 : Cond.methodLink "SmallestSpeedLaw" (65 : Nat) ({ cls := "SmallestSpeedModel", name := "limit", desc := "(III)I" } : Jvm.MethodName) ∈ tb := tb_t5 (show tables_1_5[5]? = some _ from rfl) rfl
theorem w_1007 : Cond.instanceMethod ({ cls := "SmallestSpeedModel", name := "limit", desc := "(III)I" } : Jvm.MethodName) ∈ tb := tb_t5 (show tables_1_5[6]? = some _ from rfl) rfl
theorem w_1008 : Cond.selects "SmallestSpeedModel" ({ cls := "SmallestSpeedModel", name := "limit", desc := "(III)I" } : Jvm.MethodName) ({ cls := "SmallestSpeedModel", name := "limit", desc := "(III)I" } : Jvm.MethodName) ∈ tb := tb_t5 (show tables_1_5[7]? = some _ from rfl) rfl
theorem w_1009 : Cond.code ({ cls := "SmallestSpeedModel", name := "limit", desc := "(III)I" } : Jvm.MethodName) prog_14_method_37_code (4 : Nat) (some FieldType.int) ∈ tb := tb_t5 (show tables_1_5[8]? = some _ from rfl) rfl
theorem w_1010 : Cond.methodLink "SmallestSpeedModel" (159 : Nat) ({ cls := "SmallestSpeedModel", name := "limitAt", desc := "(II)I" } : Jvm.MethodName) ∈ tb := tb_t5 (show tables_1_5[9]? = some _ from rfl) rfl
theorem w_1012 : Cond.instanceMethod ({ cls := "SmallestSpeedModel", name := "limitAt", desc := "(II)I" } : Jvm.MethodName) ∈ tb := tb_t5 (show tables_1_5[11]? = some _ from rfl) rfl
theorem w_1013 : Cond.code ({ cls := "SmallestSpeedModel", name := "limitAt", desc := "(II)I" } : Jvm.MethodName) prog_14_method_35_code (6 : Nat) (some FieldType.int) ∈ tb := tb_t5 (show tables_1_5[12]? = some _ from rfl) rfl
theorem w_1014 : Cond.methodLink "SmallestSpeedModel" (143 : Nat) ({ cls := "SmallestSpeedModel", name := "nearest", desc := "(III)I" } : Jvm.MethodName) ∈ tb := tb_t5 (show tables_1_5[13]? = some _ from rfl) rfl
theorem w_1016 : Cond.instanceMethod ({ cls := "SmallestSpeedModel", name := "nearest", desc := "(III)I" } : Jvm.MethodName) ∈ tb := tb_t5 (show tables_1_5[15]? = some _ from rfl) rfl
theorem w_1017 : Cond.code ({ cls := "SmallestSpeedModel", name := "nearest", desc := "(III)I" } : Jvm.MethodName) prog_14_method_33_code (9 : Nat) (some FieldType.int) ∈ tb := tb_t5 (show tables_1_5[16]? = some _ from rfl) rfl
theorem w_1018 : Cond.methodLink "SmallestSpeedModel" (135 : Nat) ({ cls := "SmallestSpeedModel", name := "isSeen", desc := "(III)Z" } : Jvm.MethodName) ∈ tb := tb_t5 (show tables_1_5[17]? = some _ from rfl) rfl
theorem w_1020 : Cond.instanceMethod ({ cls := "SmallestSpeedModel", name := "isSeen", desc := "(III)Z" } : Jvm.MethodName) ∈ tb := tb_t5 (show tables_1_5[19]? = some _ from rfl) rfl
theorem w_1021 : Cond.code ({ cls := "SmallestSpeedModel", name := "isSeen", desc := "(III)Z" } : Jvm.MethodName) prog_14_method_32_code (4 : Nat) (some FieldType.boolean) ∈ tb := tb_t5 (show tables_1_5[20]? = some _ from rfl) rfl
theorem w_1022 : Cond.methodLink "SmallestSpeedModel" (132 : Nat) ({ cls := "SmallestSpeedModel", name := "apart", desc := "(II)I" } : Jvm.MethodName) ∈ tb := tb_t5 (show tables_1_5[21]? = some _ from rfl) rfl
theorem w_1023 : Cond.static ({ cls := "SmallestSpeedModel", name := "apart", desc := "(II)I" } : Jvm.MethodName) ∈ tb := tb_t5 (show tables_1_5[22]? = some _ from rfl) rfl
theorem w_1024 : Cond.code ({ cls := "SmallestSpeedModel", name := "apart", desc := "(II)I" } : Jvm.MethodName) prog_14_method_31_code (2 : Nat) (some FieldType.int) ∈ tb := tb_t5 (show tables_1_5[23]? = some _ from rfl) rfl
theorem w_1025 : Cond.constant "SmallestSpeedModel" (139 : Nat) (1000000 : Int32) ∈ tb := tb_t5 (show tables_1_5[24]? = some _ from rfl) rfl
theorem w_1026 : Cond.methodLink "SmallestSpeedModel" (146 : Nat) ({ cls := "SmallestSpeedModel", name := "lowest", desc := "(II)I" } : Jvm.MethodName) ∈ tb := tb_t5 (show tables_1_5[25]? = some _ from rfl) rfl
theorem w_1028 : Cond.instanceMethod ({ cls := "SmallestSpeedModel", name := "lowest", desc := "(II)I" } : Jvm.MethodName) ∈ tb := tb_t5 (show tables_1_5[27]? = some _ from rfl) rfl
theorem w_1029 : Cond.code ({ cls := "SmallestSpeedModel", name := "lowest", desc := "(II)I" } : Jvm.MethodName) prog_14_method_34_code (5 : Nat) (some FieldType.int) ∈ tb := tb_t5 (show tables_1_5[28]? = some _ from rfl) rfl
theorem w_1030 : Cond.methodLink "SmallestSpeedLaw" (69 : Nat) ({ cls := "SmallestSpeedModel", name := "where", desc := "(II)I" } : Jvm.MethodName) ∈ tb := tb_t5 (show tables_1_5[29]? = some _ from rfl) rfl
theorem w_1031 : Cond.instanceMethod ({ cls := "SmallestSpeedModel", name := "where", desc := "(II)I" } : Jvm.MethodName) ∈ tb := tb_t5 (show tables_1_5[30]? = some _ from rfl) rfl
theorem w_1032 : Cond.selects "SmallestSpeedModel" ({ cls := "SmallestSpeedModel", name := "where", desc := "(II)I" } : Jvm.MethodName) ({ cls := "SmallestSpeedModel", name := "where", desc := "(II)I" } : Jvm.MethodName) ∈ tb := tb_t5 (show tables_1_5[31]? = some _ from rfl) rfl
theorem w_1033 : Cond.code ({ cls := "SmallestSpeedModel", name := "where", desc := "(II)I" } : Jvm.MethodName) prog_14_method_41_code (3 : Nat) (some FieldType.int) ∈ tb := tb_t5 (show tables_1_5[32]? = some _ from rfl) rfl
theorem w_1034 : Cond.methodLink "SmallestSpeedModel" (162 : Nat) ({ cls := "SmallestSpeedModel", name := "whereAt", desc := "(II)I" } : Jvm.MethodName) ∈ tb := tb_t5 (show tables_1_5[33]? = some _ from rfl) rfl
theorem w_1036 : Cond.instanceMethod ({ cls := "SmallestSpeedModel", name := "whereAt", desc := "(II)I" } : Jvm.MethodName) ∈ tb := tb_t5 (show tables_1_5[35]? = some _ from rfl) rfl
theorem w_1037 : Cond.code ({ cls := "SmallestSpeedModel", name := "whereAt", desc := "(II)I" } : Jvm.MethodName) prog_14_method_38_code (5 : Nat) (some FieldType.int) ∈ tb := tb_t5 (show tables_1_5[36]? = some _ from rfl) rfl
theorem w_1038 : Cond.methodLink "SmallestSpeedLaw" (73 : Nat) ({ cls := "SmallestSpeedModel", name := "there", desc := "(I)I" } : Jvm.MethodName) ∈ tb := tb_t5 (show tables_1_5[37]? = some _ from rfl) rfl
theorem w_1039 : Cond.instanceMethod ({ cls := "SmallestSpeedModel", name := "there", desc := "(I)I" } : Jvm.MethodName) ∈ tb := tb_t5 (show tables_1_5[38]? = some _ from rfl) rfl
theorem w_1040 : Cond.selects "SmallestSpeedModel" ({ cls := "SmallestSpeedModel", name := "there", desc := "(I)I" } : Jvm.MethodName) ({ cls := "SmallestSpeedModel", name := "there", desc := "(I)I" } : Jvm.MethodName) ∈ tb := tb_t5 (show tables_1_5[39]? = some _ from rfl) rfl
theorem w_1041 : Cond.code ({ cls := "SmallestSpeedModel", name := "there", desc := "(I)I" } : Jvm.MethodName) prog_14_method_42_code (2 : Nat) (some FieldType.int) ∈ tb := tb_t5 (show tables_1_5[40]? = some _ from rfl) rfl
theorem w_1042 : Cond.methodLink "SmallestSpeedModel" (165 : Nat) ({ cls := "SmallestSpeedModel", name := "thereFrom", desc := "(I)I" } : Jvm.MethodName) ∈ tb := tb_t5 (show tables_1_5[41]? = some _ from rfl) rfl
theorem w_1044 : Cond.instanceMethod ({ cls := "SmallestSpeedModel", name := "thereFrom", desc := "(I)I" } : Jvm.MethodName) ∈ tb := tb_t5 (show tables_1_5[43]? = some _ from rfl) rfl
theorem w_1045 : Cond.code ({ cls := "SmallestSpeedModel", name := "thereFrom", desc := "(I)I" } : Jvm.MethodName) prog_14_method_39_code (4 : Nat) (some FieldType.int) ∈ tb := tb_t5 (show tables_1_5[44]? = some _ from rfl) rfl
theorem w_1046 : Cond.methodLink "SmallestSpeedModel" (168 : Nat) ({ cls := "SmallestSpeedModel", name := "orNone", desc := "(I)I" } : Jvm.MethodName) ∈ tb := tb_t5 (show tables_1_5[45]? = some _ from rfl) rfl
theorem w_1047 : Cond.static ({ cls := "SmallestSpeedModel", name := "orNone", desc := "(I)I" } : Jvm.MethodName) ∈ tb := tb_t5 (show tables_1_5[46]? = some _ from rfl) rfl
theorem w_1048 : Cond.code ({ cls := "SmallestSpeedModel", name := "orNone", desc := "(I)I" } : Jvm.MethodName) prog_14_method_40_code (1 : Nat) (some FieldType.int) ∈ tb := tb_t5 (show tables_1_5[47]? = some _ from rfl) rfl
theorem w_1049 : Cond.methodLink "SmallestSpeedLaw" (77 : Nat) ({ cls := "SmallestSpeedModel", name := "soonest", desc := "(I)I" } : Jvm.MethodName) ∈ tb := tb_t5 (show tables_1_5[48]? = some _ from rfl) rfl
theorem w_1050 : Cond.instanceMethod ({ cls := "SmallestSpeedModel", name := "soonest", desc := "(I)I" } : Jvm.MethodName) ∈ tb := tb_t5 (show tables_1_5[49]? = some _ from rfl) rfl
theorem w_1051 : Cond.selects "SmallestSpeedModel" ({ cls := "SmallestSpeedModel", name := "soonest", desc := "(I)I" } : Jvm.MethodName) ({ cls := "SmallestSpeedModel", name := "soonest", desc := "(I)I" } : Jvm.MethodName) ∈ tb := tb_t5 (show tables_1_5[50]? = some _ from rfl) rfl
theorem w_1052 : Cond.code ({ cls := "SmallestSpeedModel", name := "soonest", desc := "(I)I" } : Jvm.MethodName) prog_14_method_45_code (2 : Nat) (some FieldType.int) ∈ tb := tb_t5 (show tables_1_5[51]? = some _ from rfl) rfl
theorem w_1053 : Cond.methodLink "SmallestSpeedModel" (174 : Nat) ({ cls := "SmallestSpeedModel", name := "soonestFrom", desc := "(I)I" } : Jvm.MethodName) ∈ tb := tb_t5 (show tables_1_5[52]? = some _ from rfl) rfl
theorem w_1055 : Cond.instanceMethod ({ cls := "SmallestSpeedModel", name := "soonestFrom", desc := "(I)I" } : Jvm.MethodName) ∈ tb := tb_t5 (show tables_1_5[54]? = some _ from rfl) rfl
theorem w_1056 : Cond.code ({ cls := "SmallestSpeedModel", name := "soonestFrom", desc := "(I)I" } : Jvm.MethodName) prog_14_method_44_code (3 : Nat) (some FieldType.int) ∈ tb := tb_t5 (show tables_1_5[55]? = some _ from rfl) rfl
theorem w_1057 : Cond.methodLink "SmallestSpeedModel" (171 : Nat) ({ cls := "SmallestSpeedModel", name := "goOn", desc := "(I)V" } : Jvm.MethodName) ∈ tb := tb_t5 (show tables_1_5[56]? = some _ from rfl) rfl
theorem w_1059 : Cond.instanceMethod ({ cls := "SmallestSpeedModel", name := "goOn", desc := "(I)V" } : Jvm.MethodName) ∈ tb := tb_t5 (show tables_1_5[58]? = some _ from rfl) rfl
theorem w_1060 : Cond.code ({ cls := "SmallestSpeedModel", name := "goOn", desc := "(I)V" } : Jvm.MethodName) prog_14_method_43_code (5 : Nat) none ∈ tb := tb_t5 (show tables_1_5[59]? = some _ from rfl) rfl
theorem w_1061 : Cond.methodLink "SmallestSpeedLaw" (81 : Nat) ({ cls := "SmallestSpeedModel", name := "start", desc := "(I)I" } : Jvm.MethodName) ∈ tb := tb_t5 (show tables_1_5[60]? = some _ from rfl) rfl
theorem w_1062 : Cond.instanceMethod ({ cls := "SmallestSpeedModel", name := "start", desc := "(I)I" } : Jvm.MethodName) ∈ tb := tb_t5 (show tables_1_5[61]? = some _ from rfl) rfl
theorem w_1063 : Cond.selects "SmallestSpeedModel" ({ cls := "SmallestSpeedModel", name := "start", desc := "(I)I" } : Jvm.MethodName) ({ cls := "SmallestSpeedModel", name := "start", desc := "(I)I" } : Jvm.MethodName) ∈ tb := tb_t5 (show tables_1_5[62]? = some _ from rfl) rfl
theorem w_1064 : Cond.code ({ cls := "SmallestSpeedModel", name := "start", desc := "(I)I" } : Jvm.MethodName) prog_14_method_46_code (6 : Nat) (some FieldType.int) ∈ tb := tb_t5 (show tables_1_5[63]? = some _ from rfl) rfl
theorem w_1065 : Cond.methodLink "SmallestSpeedLaw" (85 : Nat) ({ cls := "SmallestSpeedModel", name := "speed", desc := "(I)I" } : Jvm.MethodName) ∈ tb := tb_t5 (show tables_1_5[64]? = some _ from rfl) rfl
theorem w_1066 : Cond.instanceMethod ({ cls := "SmallestSpeedModel", name := "speed", desc := "(I)I" } : Jvm.MethodName) ∈ tb := tb_t5 (show tables_1_5[65]? = some _ from rfl) rfl
theorem w_1067 : Cond.selects "SmallestSpeedModel" ({ cls := "SmallestSpeedModel", name := "speed", desc := "(I)I" } : Jvm.MethodName) ({ cls := "SmallestSpeedModel", name := "speed", desc := "(I)I" } : Jvm.MethodName) ∈ tb := tb_t5 (show tables_1_5[66]? = some _ from rfl) rfl
theorem w_1068 : Cond.code ({ cls := "SmallestSpeedModel", name := "speed", desc := "(I)I" } : Jvm.MethodName) prog_14_method_47_code (2 : Nat) (some FieldType.int) ∈ tb := tb_t5 (show tables_1_5[67]? = some _ from rfl) rfl
theorem w_1069 : Cond.constantLong "SmallestSpeedModel" (177 : Nat) (15 : Int64) ∈ tb := tb_t5 (show tables_1_5[68]? = some _ from rfl) rfl
theorem w_1070 : Cond.methodLink "SmallestSpeedLaw" (89 : Nat) ({ cls := "SmallestSpeedModel", name := "stop", desc := "()I" } : Jvm.MethodName) ∈ tb := tb_t5 (show tables_1_5[69]? = some _ from rfl) rfl
theorem w_1071 : Cond.instanceMethod ({ cls := "SmallestSpeedModel", name := "stop", desc := "()I" } : Jvm.MethodName) ∈ tb := tb_t5 (show tables_1_5[70]? = some _ from rfl) rfl
theorem w_1072 : Cond.selects "SmallestSpeedModel" ({ cls := "SmallestSpeedModel", name := "stop", desc := "()I" } : Jvm.MethodName) ({ cls := "SmallestSpeedModel", name := "stop", desc := "()I" } : Jvm.MethodName) ∈ tb := tb_t5 (show tables_1_5[71]? = some _ from rfl) rfl
theorem w_1073 : Cond.code ({ cls := "SmallestSpeedModel", name := "stop", desc := "()I" } : Jvm.MethodName) prog_14_method_48_code (2 : Nat) (some FieldType.int) ∈ tb := tb_t5 (show tables_1_5[72]? = some _ from rfl) rfl
theorem w_1074 : Cond.methodLink "SmallestSpeedLaw" (93 : Nat) ({ cls := "SmallestSpeedModel", name := "fined", desc := "(II)I" } : Jvm.MethodName) ∈ tb := tb_t5 (show tables_1_5[73]? = some _ from rfl) rfl
theorem w_1075 : Cond.instanceMethod ({ cls := "SmallestSpeedModel", name := "fined", desc := "(II)I" } : Jvm.MethodName) ∈ tb := tb_t5 (show tables_1_5[74]? = some _ from rfl) rfl
theorem w_1076 : Cond.selects "SmallestSpeedModel" ({ cls := "SmallestSpeedModel", name := "fined", desc := "(II)I" } : Jvm.MethodName) ({ cls := "SmallestSpeedModel", name := "fined", desc := "(II)I" } : Jvm.MethodName) ∈ tb := tb_t5 (show tables_1_5[75]? = some _ from rfl) rfl
theorem w_1077 : Cond.code ({ cls := "SmallestSpeedModel", name := "fined", desc := "(II)I" } : Jvm.MethodName) prog_14_method_50_code (11 : Nat) (some FieldType.int) ∈ tb := tb_t5 (show tables_1_5[76]? = some _ from rfl) rfl
theorem w_1078 : Cond.methodLink "SmallestSpeedModel" (179 : Nat) ({ cls := "SmallestSpeedModel", name := "pastIn", desc := "(III)I" } : Jvm.MethodName) ∈ tb := tb_t5 (show tables_1_5[77]? = some _ from rfl) rfl
theorem w_1080 : Cond.instanceMethod ({ cls := "SmallestSpeedModel", name := "pastIn", desc := "(III)I" } : Jvm.MethodName) ∈ tb := tb_t5 (show tables_1_5[79]? = some _ from rfl) rfl
theorem w_1081 : Cond.code ({ cls := "SmallestSpeedModel", name := "pastIn", desc := "(III)I" } : Jvm.MethodName) prog_14_method_49_code (6 : Nat) (some FieldType.int) ∈ tb := tb_t5 (show tables_1_5[80]? = some _ from rfl) rfl
theorem w_1082 : Cond.methodLink "SmallestSpeedLaw" (97 : Nat) ({ cls := "SmallestSpeedModel", name := "toBed", desc := "(III)I" } : Jvm.MethodName) ∈ tb := tb_t5 (show tables_1_5[81]? = some _ from rfl) rfl
theorem w_1083 : Cond.instanceMethod ({ cls := "SmallestSpeedModel", name := "toBed", desc := "(III)I" } : Jvm.MethodName) ∈ tb := tb_t5 (show tables_1_5[82]? = some _ from rfl) rfl
theorem w_1084 : Cond.selects "SmallestSpeedModel" ({ cls := "SmallestSpeedModel", name := "toBed", desc := "(III)I" } : Jvm.MethodName) ({ cls := "SmallestSpeedModel", name := "toBed", desc := "(III)I" } : Jvm.MethodName) ∈ tb := tb_t5 (show tables_1_5[83]? = some _ from rfl) rfl
theorem w_1085 : Cond.code ({ cls := "SmallestSpeedModel", name := "toBed", desc := "(III)I" } : Jvm.MethodName) prog_14_method_51_code (9 : Nat) (some FieldType.int) ∈ tb := tb_t5 (show tables_1_5[84]? = some _ from rfl) rfl
theorem w_1086 : Cond.constantLong "SmallestSpeedModel" (182 : Nat) (6 : Int64) ∈ tb := tb_t5 (show tables_1_5[85]? = some _ from rfl) rfl
theorem w_1087 : Cond.methodLink "SmallestSpeedModel" (184 : Nat) ({ cls := "SmallestSpeedModel", name := "bits", desc := "(I)I" } : Jvm.MethodName) ∈ tb := tb_t5 (show tables_1_5[86]? = some _ from rfl) rfl
theorem w_1088 : Cond.static ({ cls := "SmallestSpeedModel", name := "bits", desc := "(I)I" } : Jvm.MethodName) ∈ tb := tb_t5 (show tables_1_5[87]? = some _ from rfl) rfl
theorem w_1089 : Cond.code ({ cls := "SmallestSpeedModel", name := "bits", desc := "(I)I" } : Jvm.MethodName) prog_14_method_7_code (3 : Nat) (some FieldType.int) ∈ tb := tb_t5 (show tables_1_5[88]? = some _ from rfl) rfl
theorem w_1090 : Cond.methodLink "SmallestSpeedLaw" (101 : Nat) ({ cls := "SmallestSpeedModel", name := "move", desc := "(I)I" } : Jvm.MethodName) ∈ tb := tb_t5 (show tables_1_5[89]? = some _ from rfl) rfl
theorem w_1091 : Cond.instanceMethod ({ cls := "SmallestSpeedModel", name := "move", desc := "(I)I" } : Jvm.MethodName) ∈ tb := tb_t5 (show tables_1_5[90]? = some _ from rfl) rfl
theorem w_1092 : Cond.selects "SmallestSpeedModel" ({ cls := "SmallestSpeedModel", name := "move", desc := "(I)I" } : Jvm.MethodName) ({ cls := "SmallestSpeedModel", name := "move", desc := "(I)I" } : Jvm.MethodName) ∈ tb := tb_t5 (show tables_1_5[91]? = some _ from rfl) rfl
theorem w_1093 : Cond.code ({ cls := "SmallestSpeedModel", name := "move", desc := "(I)I" } : Jvm.MethodName) prog_14_method_52_code (7 : Nat) (some FieldType.int) ∈ tb := tb_t5 (show tables_1_5[92]? = some _ from rfl) rfl
theorem w_1094 : Cond.methodLink "SmallestSpeedLaw" (105 : Nat) ({ cls := "SmallestSpeedModel", name := "carters", desc := "(II)I" } : Jvm.MethodName) ∈ tb := tb_t5 (show tables_1_5[93]? = some _ from rfl) rfl
theorem w_1095 : Cond.instanceMethod ({ cls := "SmallestSpeedModel", name := "carters", desc := "(II)I" } : Jvm.MethodName) ∈ tb := tb_t5 (show tables_1_5[94]? = some _ from rfl) rfl
theorem w_1096 : Cond.selects "SmallestSpeedModel" ({ cls := "SmallestSpeedModel", name := "carters", desc := "(II)I" } : Jvm.MethodName) ({ cls := "SmallestSpeedModel", name := "carters", desc := "(II)I" } : Jvm.MethodName) ∈ tb := tb_t5 (show tables_1_5[95]? = some _ from rfl) rfl
theorem w_1097 : Cond.code ({ cls := "SmallestSpeedModel", name := "carters", desc := "(II)I" } : Jvm.MethodName) prog_14_method_55_code (6 : Nat) (some FieldType.int) ∈ tb := tb_t5 (show tables_1_5[96]? = some _ from rfl) rfl
theorem w_1098 : Cond.constantLong "SmallestSpeedModel" (187 : Nat) (50 : Int64) ∈ tb := tb_t5 (show tables_1_5[97]? = some _ from rfl) rfl
theorem w_1099 : Cond.methodLink "SmallestSpeedModel" (189 : Nat) ({ cls := "SmallestSpeedModel", name := "layGets", desc := "(I)V" } : Jvm.MethodName) ∈ tb := tb_t5 (show tables_1_5[98]? = some _ from rfl) rfl
theorem w_1101 : Cond.instanceMethod ({ cls := "SmallestSpeedModel", name := "layGets", desc := "(I)V" } : Jvm.MethodName) ∈ tb := tb_t5 (show tables_1_5[100]? = some _ from rfl) rfl
theorem w_1102 : Cond.code ({ cls := "SmallestSpeedModel", name := "layGets", desc := "(I)V" } : Jvm.MethodName) prog_14_method_53_code (5 : Nat) none ∈ tb := tb_t5 (show tables_1_5[101]? = some _ from rfl) rfl
theorem w_1103 : Cond.methodLink "SmallestSpeedModel" (192 : Nat) ({ cls := "SmallestSpeedModel", name := "rests", desc := "(II)Z" } : Jvm.MethodName) ∈ tb := tb_t5 (show tables_1_5[102]? = some _ from rfl) rfl
theorem w_1105 : Cond.instanceMethod ({ cls := "SmallestSpeedModel", name := "rests", desc := "(II)Z" } : Jvm.MethodName) ∈ tb := tb_t5 (show tables_1_5[104]? = some _ from rfl) rfl
theorem w_1106 : Cond.code ({ cls := "SmallestSpeedModel", name := "rests", desc := "(II)Z" } : Jvm.MethodName) prog_14_method_54_code (5 : Nat) (some FieldType.boolean) ∈ tb := tb_t5 (show tables_1_5[105]? = some _ from rfl) rfl
theorem w_1107 : Cond.methodLink "SmallestSpeedLaw" (109 : Nat) ({ cls := "SmallestSpeedModel", name := "reading", desc := "(III)I" } : Jvm.MethodName) ∈ tb := tb_t5 (show tables_1_5[106]? = some _ from rfl) rfl
theorem w_1108 : Cond.instanceMethod ({ cls := "SmallestSpeedModel", name := "reading", desc := "(III)I" } : Jvm.MethodName) ∈ tb := tb_t5 (show tables_1_5[107]? = some _ from rfl) rfl
theorem w_1109 : Cond.selects "SmallestSpeedModel" ({ cls := "SmallestSpeedModel", name := "reading", desc := "(III)I" } : Jvm.MethodName) ({ cls := "SmallestSpeedModel", name := "reading", desc := "(III)I" } : Jvm.MethodName) ∈ tb := tb_t5 (show tables_1_5[108]? = some _ from rfl) rfl
theorem w_1110 : Cond.code ({ cls := "SmallestSpeedModel", name := "reading", desc := "(III)I" } : Jvm.MethodName) prog_14_method_56_code (5 : Nat) (some FieldType.int) ∈ tb := tb_t5 (show tables_1_5[109]? = some _ from rfl) rfl
theorem w_1111 : Cond.methodLink "SmallestSpeedLaw" (113 : Nat) ({ cls := "SmallestSpeedModel", name := "forget", desc := "()I" } : Jvm.MethodName) ∈ tb := tb_t5 (show tables_1_5[110]? = some _ from rfl) rfl
theorem w_1112 : Cond.instanceMethod ({ cls := "SmallestSpeedModel", name := "forget", desc := "()I" } : Jvm.MethodName) ∈ tb := tb_t5 (show tables_1_5[111]? = some _ from rfl) rfl
theorem w_1113 : Cond.selects "SmallestSpeedModel" ({ cls := "SmallestSpeedModel", name := "forget", desc := "()I" } : Jvm.MethodName) ({ cls := "SmallestSpeedModel", name := "forget", desc := "()I" } : Jvm.MethodName) ∈ tb := tb_t5 (show tables_1_5[112]? = some _ from rfl) rfl
theorem w_1114 : Cond.code ({ cls := "SmallestSpeedModel", name := "forget", desc := "()I" } : Jvm.MethodName) prog_14_method_57_code (2 : Nat) (some FieldType.int) ∈ tb := tb_t5 (show tables_1_5[113]? = some _ from rfl) rfl
theorem w_1115 : Cond.methodLink "SmallestSpeedLaw" (117 : Nat) ({ cls := "SmallestSpeedModel", name := "out", desc := "(I)I" } : Jvm.MethodName) ∈ tb := tb_t5 (show tables_1_5[114]? = some _ from rfl) rfl
theorem w_1116 : Cond.instanceMethod ({ cls := "SmallestSpeedModel", name := "out", desc := "(I)I" } : Jvm.MethodName) ∈ tb := tb_t5 (show tables_1_5[115]? = some _ from rfl) rfl
theorem w_1117 : Cond.selects "SmallestSpeedModel" ({ cls := "SmallestSpeedModel", name := "out", desc := "(I)I" } : Jvm.MethodName) ({ cls := "SmallestSpeedModel", name := "out", desc := "(I)I" } : Jvm.MethodName) ∈ tb := tb_t5 (show tables_1_5[116]? = some _ from rfl) rfl
theorem w_1118 : Cond.code ({ cls := "SmallestSpeedModel", name := "out", desc := "(I)I" } : Jvm.MethodName) prog_14_method_59_code (6 : Nat) (some FieldType.int) ∈ tb := tb_t5 (show tables_1_5[117]? = some _ from rfl) rfl
theorem w_1119 : Cond.methodLink "SmallestSpeedModel" (195 : Nat) ({ cls := "SmallestSpeedModel", name := "areSo", desc := "()Z" } : Jvm.MethodName) ∈ tb := tb_t5 (show tables_1_5[118]? = some _ from rfl) rfl
theorem w_1121 : Cond.instanceMethod ({ cls := "SmallestSpeedModel", name := "areSo", desc := "()Z" } : Jvm.MethodName) ∈ tb := tb_t5 (show tables_1_5[120]? = some _ from rfl) rfl
theorem w_1122 : Cond.code ({ cls := "SmallestSpeedModel", name := "areSo", desc := "()Z" } : Jvm.MethodName) prog_14_method_58_code (4 : Nat) (some FieldType.boolean) ∈ tb := tb_t5 (show tables_1_5[121]? = some _ from rfl) rfl
theorem w_1123 : Cond.methodLink "SmallestSpeedLaw" (121 : Nat) ({ cls := "SmallestSpeedModel", name := "look", desc := "(I)I" } : Jvm.MethodName) ∈ tb := tb_t5 (show tables_1_5[122]? = some _ from rfl) rfl
theorem w_1124 : Cond.instanceMethod ({ cls := "SmallestSpeedModel", name := "look", desc := "(I)I" } : Jvm.MethodName) ∈ tb := tb_t5 (show tables_1_5[123]? = some _ from rfl) rfl
theorem w_1125 : Cond.selects "SmallestSpeedModel" ({ cls := "SmallestSpeedModel", name := "look", desc := "(I)I" } : Jvm.MethodName) ({ cls := "SmallestSpeedModel", name := "look", desc := "(I)I" } : Jvm.MethodName) ∈ tb := tb_t5 (show tables_1_5[124]? = some _ from rfl) rfl
theorem w_1126 : Cond.code ({ cls := "SmallestSpeedModel", name := "look", desc := "(I)I" } : Jvm.MethodName) prog_14_method_61_code (7 : Nat) (some FieldType.int) ∈ tb := tb_t5 (show tables_1_5[125]? = some _ from rfl) rfl
theorem w_1127 : Cond.methodLink "SmallestSpeedModel" (199 : Nat) ({ cls := "SmallestSpeedModel", name := "mostLike", desc := "(II)I" } : Jvm.MethodName) ∈ tb := tb_t5 (show tables_1_5[126]? = some _ from rfl) rfl
theorem w_1129 : Cond.instanceMethod ({ cls := "SmallestSpeedModel", name := "mostLike", desc := "(II)I" } : Jvm.MethodName) ∈ tb := tb_t5 (show tables_1_5[128]? = some _ from rfl) rfl
theorem w_1130 : Cond.code ({ cls := "SmallestSpeedModel", name := "mostLike", desc := "(II)I" } : Jvm.MethodName) prog_14_method_60_code (6 : Nat) (some FieldType.int) ∈ tb := tb_t5 (show tables_1_5[129]? = some _ from rfl) rfl
theorem w_1131 : Cond.methodLink "SmallestSpeedLaw" (125 : Nat) ({ cls := "SmallestSpeedModel", name := "dolls", desc := "()I" } : Jvm.MethodName) ∈ tb := tb_t5 (show tables_1_5[130]? = some _ from rfl) rfl
theorem w_1132 : Cond.instanceMethod ({ cls := "SmallestSpeedModel", name := "dolls", desc := "()I" } : Jvm.MethodName) ∈ tb := tb_t5 (show tables_1_5[131]? = some _ from rfl) rfl
theorem w_1133 : Cond.selects "SmallestSpeedModel" ({ cls := "SmallestSpeedModel", name := "dolls", desc := "()I" } : Jvm.MethodName) ({ cls := "SmallestSpeedModel", name := "dolls", desc := "()I" } : Jvm.MethodName) ∈ tb := tb_t5 (show tables_1_5[132]? = some _ from rfl) rfl
theorem w_1134 : Cond.code ({ cls := "SmallestSpeedModel", name := "dolls", desc := "()I" } : Jvm.MethodName) prog_14_method_62_code (3 : Nat) (some FieldType.int) ∈ tb := tb_t5 (show tables_1_5[133]? = some _ from rfl) rfl
theorem w_1135 : Cond.methodLink "SmallestSpeedLaw" (129 : Nat) ({ cls := "SmallestSpeedModel", name := "days", desc := "(III)I" } : Jvm.MethodName) ∈ tb := tb_t5 (show tables_1_5[134]? = some _ from rfl) rfl
theorem w_1136 : Cond.instanceMethod ({ cls := "SmallestSpeedModel", name := "days", desc := "(III)I" } : Jvm.MethodName) ∈ tb := tb_t5 (show tables_1_5[135]? = some _ from rfl) rfl
theorem w_1137 : Cond.selects "SmallestSpeedModel" ({ cls := "SmallestSpeedModel", name := "days", desc := "(III)I" } : Jvm.MethodName) ({ cls := "SmallestSpeedModel", name := "days", desc := "(III)I" } : Jvm.MethodName) ∈ tb := tb_t5 (show tables_1_5[136]? = some _ from rfl) rfl
theorem w_1138 : Cond.code ({ cls := "SmallestSpeedModel", name := "days", desc := "(III)I" } : Jvm.MethodName) prog_14_method_64_code (10 : Nat) (some FieldType.int) ∈ tb := tb_t5 (show tables_1_5[137]? = some _ from rfl) rfl
theorem w_1139 : Cond.constantLong "SmallestSpeedModel" (205 : Nat) (999999 : Int64) ∈ tb := tb_t5 (show tables_1_5[138]? = some _ from rfl) rfl
theorem w_1140 : Cond.constantLong "SmallestSpeedModel" (207 : Nat) (30 : Int64) ∈ tb := tb_t5 (show tables_1_5[139]? = some _ from rfl) rfl
theorem w_1141 : Cond.constantLong "SmallestSpeedModel" (209 : Nat) (100 : Int64) ∈ tb := tb_t5 (show tables_1_5[140]? = some _ from rfl) rfl
theorem w_1142 : Cond.constantLong "SmallestSpeedModel" (211 : Nat) (1103515245 : Int64) ∈ tb := tb_t5 (show tables_1_5[141]? = some _ from rfl) rfl
theorem w_1143 : Cond.constantLong "SmallestSpeedModel" (213 : Nat) (12345 : Int64) ∈ tb := tb_t5 (show tables_1_5[142]? = some _ from rfl) rfl
theorem w_1144 : Cond.constantLong "SmallestSpeedModel" (215 : Nat) (2147483648 : Int64) ∈ tb := tb_t5 (show tables_1_5[143]? = some _ from rfl) rfl
theorem w_1145 : Cond.constantLong "SmallestSpeedModel" (217 : Nat) (65536 : Int64) ∈ tb := tb_t5 (show tables_1_5[144]? = some _ from rfl) rfl
theorem w_1146 : Cond.methodLink "SmallestSpeedModel" (219 : Nat) ({ cls := "SmallestSpeedModel", name := "fraction", desc := "(II)V" } : Jvm.MethodName) ∈ tb := tb_t5 (show tables_1_5[145]? = some _ from rfl) rfl
theorem w_1148 : Cond.instanceMethod ({ cls := "SmallestSpeedModel", name := "fraction", desc := "(II)V" } : Jvm.MethodName) ∈ tb := tb_t5 (show tables_1_5[147]? = some _ from rfl) rfl
theorem w_1149 : Cond.code ({ cls := "SmallestSpeedModel", name := "fraction", desc := "(II)V" } : Jvm.MethodName) prog_14_method_63_code (6 : Nat) none ∈ tb := tb_t5 (show tables_1_5[148]? = some _ from rfl) rfl
theorem w_1150 : Cond.methodLink "SmallestSpeedLaw" (48 : Nat) ({ cls := "SmallestSpeedModel", name := "type", desc := "(I)I" } : Jvm.MethodName) ∈ tb := tb_t5 (show tables_1_5[149]? = some _ from rfl) rfl
theorem w_1151 : Cond.instanceMethod ({ cls := "SmallestSpeedModel", name := "type", desc := "(I)I" } : Jvm.MethodName) ∈ tb := tb_t5 (show tables_1_5[150]? = some _ from rfl) rfl
theorem w_1152 : Cond.selects "SmallestSpeedModel" ({ cls := "SmallestSpeedModel", name := "type", desc := "(I)I" } : Jvm.MethodName) ({ cls := "SmallestSpeedModel", name := "type", desc := "(I)I" } : Jvm.MethodName) ∈ tb := tb_t5 (show tables_1_5[151]? = some _ from rfl) rfl
theorem w_1153 : Cond.code ({ cls := "SmallestSpeedModel", name := "type", desc := "(I)I" } : Jvm.MethodName) prog_14_method_65_code (2 : Nat) (some FieldType.int) ∈ tb := tb_t5 (show tables_1_5[152]? = some _ from rfl) rfl
theorem w_1154 : Cond.constantLong "SmallestSpeedModel" (223 : Nat) (127 : Int64) ∈ tb := tb_t5 (show tables_1_5[153]? = some _ from rfl) rfl
theorem w_1155 : Cond.methodLink "SmallestSpeedLaw" (52 : Nat) ({ cls := "SmallestSpeedModel", name := "clear", desc := "()I" } : Jvm.MethodName) ∈ tb := tb_t5 (show tables_1_5[154]? = some _ from rfl) rfl
theorem w_1156 : Cond.instanceMethod ({ cls := "SmallestSpeedModel", name := "clear", desc := "()I" } : Jvm.MethodName) ∈ tb := tb_t5 (show tables_1_5[155]? = some _ from rfl) rfl
theorem w_1157 : Cond.selects "SmallestSpeedModel" ({ cls := "SmallestSpeedModel", name := "clear", desc := "()I" } : Jvm.MethodName) ({ cls := "SmallestSpeedModel", name := "clear", desc := "()I" } : Jvm.MethodName) ∈ tb := tb_t5 (show tables_1_5[156]? = some _ from rfl) rfl
theorem w_1158 : Cond.code ({ cls := "SmallestSpeedModel", name := "clear", desc := "()I" } : Jvm.MethodName) prog_14_method_66_code (2 : Nat) (some FieldType.int) ∈ tb := tb_t5 (show tables_1_5[157]? = some _ from rfl) rfl
theorem w_1159 : Cond.methodLink "SmallestSpeedLaw" (56 : Nat) ({ cls := "SmallestSpeedModel", name := "read", desc := "()I" } : Jvm.MethodName) ∈ tb := tb_t5 (show tables_1_5[158]? = some _ from rfl) rfl
theorem w_1160 : Cond.instanceMethod ({ cls := "SmallestSpeedModel", name := "read", desc := "()I" } : Jvm.MethodName) ∈ tb := tb_t5 (show tables_1_5[159]? = some _ from rfl) rfl
theorem w_1161 : Cond.selects "SmallestSpeedModel" ({ cls := "SmallestSpeedModel", name := "read", desc := "()I" } : Jvm.MethodName) ({ cls := "SmallestSpeedModel", name := "read", desc := "()I" } : Jvm.MethodName) ∈ tb := tb_t5 (show tables_1_5[160]? = some _ from rfl) rfl
theorem w_1162 : Cond.code ({ cls := "SmallestSpeedModel", name := "read", desc := "()I" } : Jvm.MethodName) prog_14_method_75_code (3 : Nat) (some FieldType.int) ∈ tb := tb_t5 (show tables_1_5[161]? = some _ from rfl) rfl
theorem w_1163 : Cond.methodLink "SmallestSpeedModel" (254 : Nat) ({ cls := "SmallestSpeedModel", name := "lookAt", desc := "(I)V" } : Jvm.MethodName) ∈ tb := tb_t5 (show tables_1_5[162]? = some _ from rfl) rfl
theorem w_1165 : Cond.instanceMethod ({ cls := "SmallestSpeedModel", name := "lookAt", desc := "(I)V" } : Jvm.MethodName) ∈ tb := tb_t5 (show tables_1_5[164]? = some _ from rfl) rfl
theorem w_1166 : Cond.code ({ cls := "SmallestSpeedModel", name := "lookAt", desc := "(I)V" } : Jvm.MethodName) prog_14_method_69_code (5 : Nat) none ∈ tb := tb_t5 (show tables_1_5[165]? = some _ from rfl) rfl
theorem w_1167 : Cond.methodLink "SmallestSpeedModel" (248 : Nat) ({ cls := "SmallestSpeedModel", name := "isSmall", desc := "(I)Z" } : Jvm.MethodName) ∈ tb := tb_t5 (show tables_1_5[166]? = some _ from rfl) rfl
theorem w_1168 : Cond.static ({ cls := "SmallestSpeedModel", name := "isSmall", desc := "(I)Z" } : Jvm.MethodName) ∈ tb := tb_t5 (show tables_1_5[167]? = some _ from rfl) rfl
theorem w_1169 : Cond.code ({ cls := "SmallestSpeedModel", name := "isSmall", desc := "(I)Z" } : Jvm.MethodName) prog_14_method_67_code (1 : Nat) (some FieldType.boolean) ∈ tb := tb_t5 (show tables_1_5[168]? = some _ from rfl) rfl
theorem w_1170 : Cond.constantLong "SmallestSpeedModel" (228 : Nat) (97 : Int64) ∈ tb := tb_t5 (show tables_1_5[169]? = some _ from rfl) rfl
theorem w_1171 : Cond.constantLong "SmallestSpeedModel" (230 : Nat) (122 : Int64) ∈ tb := tb_t5 (show tables_1_5[170]? = some _ from rfl) rfl
theorem w_1172 : Cond.methodLink "SmallestSpeedModel" (251 : Nat) ({ cls := "SmallestSpeedModel", name := "isFigure", desc := "(I)Z" } : Jvm.MethodName) ∈ tb := tb_t5 (show tables_1_5[171]? = some _ from rfl) rfl
theorem w_1173 : Cond.static ({ cls := "SmallestSpeedModel", name := "isFigure", desc := "(I)Z" } : Jvm.MethodName) ∈ tb := tb_t5 (show tables_1_5[172]? = some _ from rfl) rfl
theorem w_1174 : Cond.code ({ cls := "SmallestSpeedModel", name := "isFigure", desc := "(I)Z" } : Jvm.MethodName) prog_14_method_68_code (1 : Nat) (some FieldType.boolean) ∈ tb := tb_t5 (show tables_1_5[173]? = some _ from rfl) rfl
theorem w_1175 : Cond.constantLong "SmallestSpeedModel" (232 : Nat) (48 : Int64) ∈ tb := tb_t5 (show tables_1_5[174]? = some _ from rfl) rfl
theorem w_1176 : Cond.constantLong "SmallestSpeedModel" (234 : Nat) (57 : Int64) ∈ tb := tb_t5 (show tables_1_5[175]? = some _ from rfl) rfl
theorem w_1177 : Cond.methodLink "SmallestSpeedModel" (267 : Nat) ({ cls := "SmallestSpeedModel", name := "takesFirst", desc := "()Z" } : Jvm.MethodName) ∈ tb := tb_t5 (show tables_1_5[176]? = some _ from rfl) rfl
theorem w_1179 : Cond.instanceMethod ({ cls := "SmallestSpeedModel", name := "takesFirst", desc := "()Z" } : Jvm.MethodName) ∈ tb := tb_t5 (show tables_1_5[178]? = some _ from rfl) rfl
theorem w_1180 : Cond.code ({ cls := "SmallestSpeedModel", name := "takesFirst", desc := "()Z" } : Jvm.MethodName) prog_14_method_73_code (1 : Nat) (some FieldType.boolean) ∈ tb := tb_t5 (show tables_1_5[179]? = some _ from rfl) rfl
theorem w_1181 : Cond.methodLink "SmallestSpeedModel" (260 : Nat) ({ cls := "SmallestSpeedModel", name := "isCalled", desc := "(IIIIII)Z" } : Jvm.MethodName) ∈ tb := tb_t5 (show tables_1_5[180]? = some _ from rfl) rfl
theorem w_1183 : Cond.instanceMethod ({ cls := "SmallestSpeedModel", name := "isCalled", desc := "(IIIIII)Z" } : Jvm.MethodName) ∈ tb := tb_t5 (show tables_1_5[182]? = some _ from rfl) rfl
theorem w_1184 : Cond.code ({ cls := "SmallestSpeedModel", name := "isCalled", desc := "(IIIIII)Z" } : Jvm.MethodName) prog_14_method_71_code (9 : Nat) (some FieldType.boolean) ∈ tb := tb_t5 (show tables_1_5[183]? = some _ from rfl) rfl
theorem w_1185 : Cond.methodLink "SmallestSpeedModel" (257 : Nat) ({ cls := "SmallestSpeedModel", name := "goBehind", desc := "()V" } : Jvm.MethodName) ∈ tb := tb_t5 (show tables_1_5[184]? = some _ from rfl) rfl
theorem w_1187 : Cond.instanceMethod ({ cls := "SmallestSpeedModel", name := "goBehind", desc := "()V" } : Jvm.MethodName) ∈ tb := tb_t5 (show tables_1_5[186]? = some _ from rfl) rfl
theorem w_1188 : Cond.code ({ cls := "SmallestSpeedModel", name := "goBehind", desc := "()V" } : Jvm.MethodName) prog_14_method_70_code (1 : Nat) none ∈ tb := tb_t5 (show tables_1_5[187]? = some _ from rfl) rfl
theorem w_1189 : Cond.methodLink "SmallestSpeedModel" (264 : Nat) ({ cls := "SmallestSpeedModel", name := "takes", desc := "(III)Z" } : Jvm.MethodName) ∈ tb := tb_t5 (show tables_1_5[188]? = some _ from rfl) rfl
theorem w_1191 : Cond.instanceMethod ({ cls := "SmallestSpeedModel", name := "takes", desc := "(III)Z" } : Jvm.MethodName) ∈ tb := tb_t5 (show tables_1_5[190]? = some _ from rfl) rfl
theorem w_1192 : Cond.code ({ cls := "SmallestSpeedModel", name := "takes", desc := "(III)Z" } : Jvm.MethodName) prog_14_method_72_code (4 : Nat) (some FieldType.boolean) ∈ tb := tb_t5 (show tables_1_5[191]? = some _ from rfl) rfl
theorem w_1193 : Cond.methodLink "SmallestSpeedModel" (270 : Nat) ({ cls := "SmallestSpeedModel", name := "takesChild", desc := "()Z" } : Jvm.MethodName) ∈ tb := tb_t5 (show tables_1_5[192]? = some _ from rfl) rfl
theorem w_1195 : Cond.instanceMethod ({ cls := "SmallestSpeedModel", name := "takesChild", desc := "()Z" } : Jvm.MethodName) ∈ tb := tb_t5 (show tables_1_5[194]? = some _ from rfl) rfl
theorem w_1196 : Cond.code ({ cls := "SmallestSpeedModel", name := "takesChild", desc := "()Z" } : Jvm.MethodName) prog_14_method_74_code (1 : Nat) (some FieldType.boolean) ∈ tb := tb_t5 (show tables_1_5[195]? = some _ from rfl) rfl
theorem w_1197 : Cond.methodLink "SmallestSpeedLaw" (134 : Nat) ({ cls := "SmallestSpeedModel", name := "part", desc := "(I)J" } : Jvm.MethodName) ∈ tb := tb_t5 (show tables_1_5[196]? = some _ from rfl) rfl
theorem w_1198 : Cond.instanceMethod ({ cls := "SmallestSpeedModel", name := "part", desc := "(I)J" } : Jvm.MethodName) ∈ tb := tb_t5 (show tables_1_5[197]? = some _ from rfl) rfl
theorem w_1199 : Cond.selects "SmallestSpeedModel" ({ cls := "SmallestSpeedModel", name := "part", desc := "(I)J" } : Jvm.MethodName) ({ cls := "SmallestSpeedModel", name := "part", desc := "(I)J" } : Jvm.MethodName) ∈ tb := tb_t5 (show tables_1_5[198]? = some _ from rfl) rfl
theorem w_1200 : Cond.code ({ cls := "SmallestSpeedModel", name := "part", desc := "(I)J" } : Jvm.MethodName) prog_14_method_76_code (2 : Nat) (some FieldType.long) ∈ tb := tb_t5 (show tables_1_5[199]? = some _ from rfl) rfl
theorem w_1201 : Cond.methodLink "SmallestSpeedLaw" (138 : Nat) ({ cls := "SmallestSpeedModel", name := "image", desc := "(I)I" } : Jvm.MethodName) ∈ tb := tb_t5 (show tables_1_5[200]? = some _ from rfl) rfl
theorem w_1202 : Cond.instanceMethod ({ cls := "SmallestSpeedModel", name := "image", desc := "(I)I" } : Jvm.MethodName) ∈ tb := tb_t5 (show tables_1_5[201]? = some _ from rfl) rfl
theorem w_1203 : Cond.selects "SmallestSpeedModel" ({ cls := "SmallestSpeedModel", name := "image", desc := "(I)I" } : Jvm.MethodName) ({ cls := "SmallestSpeedModel", name := "image", desc := "(I)I" } : Jvm.MethodName) ∈ tb := tb_t5 (show tables_1_5[202]? = some _ from rfl) rfl
theorem w_1204 : Cond.code ({ cls := "SmallestSpeedModel", name := "image", desc := "(I)I" } : Jvm.MethodName) prog_14_method_77_code (3 : Nat) (some FieldType.int) ∈ tb := tb_t5 (show tables_1_5[203]? = some _ from rfl) rfl
theorem w_1205 : Cond.methodLink "SmallestSpeedLaw" (142 : Nat) ({ cls := "SmallestSpeedModel", name := "from", desc := "(I)I" } : Jvm.MethodName) ∈ tb := tb_t5 (show tables_1_5[204]? = some _ from rfl) rfl
theorem w_1206 : Cond.instanceMethod ({ cls := "SmallestSpeedModel", name := "from", desc := "(I)I" } : Jvm.MethodName) ∈ tb := tb_t5 (show tables_1_5[205]? = some _ from rfl) rfl
theorem w_1207 : Cond.selects "SmallestSpeedModel" ({ cls := "SmallestSpeedModel", name := "from", desc := "(I)I" } : Jvm.MethodName) ({ cls := "SmallestSpeedModel", name := "from", desc := "(I)I" } : Jvm.MethodName) ∈ tb := tb_t5 (show tables_1_5[206]? = some _ from rfl) rfl
theorem w_1208 : Cond.code ({ cls := "SmallestSpeedModel", name := "from", desc := "(I)I" } : Jvm.MethodName) prog_14_method_78_code (3 : Nat) (some FieldType.int) ∈ tb := tb_t5 (show tables_1_5[207]? = some _ from rfl) rfl
theorem w_1209 : Cond.methodLink "SmallestSpeedLaw" (146 : Nat) ({ cls := "SmallestSpeedModel", name := "status", desc := "(I)I" } : Jvm.MethodName) ∈ tb := tb_t5 (show tables_1_5[208]? = some _ from rfl) rfl
theorem w_1210 : Cond.instanceMethod ({ cls := "SmallestSpeedModel", name := "status", desc := "(I)I" } : Jvm.MethodName) ∈ tb := tb_t5 (show tables_1_5[209]? = some _ from rfl) rfl
theorem w_1211 : Cond.selects "SmallestSpeedModel" ({ cls := "SmallestSpeedModel", name := "status", desc := "(I)I" } : Jvm.MethodName) ({ cls := "SmallestSpeedModel", name := "status", desc := "(I)I" } : Jvm.MethodName) ∈ tb := tb_t5 (show tables_1_5[210]? = some _ from rfl) rfl
theorem w_1212 : Cond.code ({ cls := "SmallestSpeedModel", name := "status", desc := "(I)I" } : Jvm.MethodName) prog_14_method_79_code (2 : Nat) (some FieldType.int) ∈ tb := tb_t5 (show tables_1_5[211]? = some _ from rfl) rfl
theorem w_1213 : Cond.methodLink "SmallestSpeedLaw" (150 : Nat) ({ cls := "SmallestSpeedModel", name := "count", desc := "(I)I" } : Jvm.MethodName) ∈ tb := tb_t5 (show tables_1_5[212]? = some _ from rfl) rfl
theorem w_1214 : Cond.instanceMethod ({ cls := "SmallestSpeedModel", name := "count", desc := "(I)I" } : Jvm.MethodName) ∈ tb := tb_t5 (show tables_1_5[213]? = some _ from rfl) rfl
theorem w_1215 : Cond.selects "SmallestSpeedModel" ({ cls := "SmallestSpeedModel", name := "count", desc := "(I)I" } : Jvm.MethodName) ({ cls := "SmallestSpeedModel", name := "count", desc := "(I)I" } : Jvm.MethodName) ∈ tb := tb_t5 (show tables_1_5[214]? = some _ from rfl) rfl
theorem w_1216 : Cond.code ({ cls := "SmallestSpeedModel", name := "count", desc := "(I)I" } : Jvm.MethodName) prog_14_method_81_code (2 : Nat) (some FieldType.int) ∈ tb := tb_t5 (show tables_1_5[215]? = some _ from rfl) rfl
theorem w_1217 : Cond.methodLink "SmallestSpeedModel" (273 : Nat) ({ cls := "SmallestSpeedModel", name := "counted", desc := "(I)I" } : Jvm.MethodName) ∈ tb := tb_t5 (show tables_1_5[216]? = some _ from rfl) rfl
theorem w_1219 : Cond.instanceMethod ({ cls := "SmallestSpeedModel", name := "counted", desc := "(I)I" } : Jvm.MethodName) ∈ tb := tb_t5 (show tables_1_5[218]? = some _ from rfl) rfl
theorem w_1220 : Cond.code ({ cls := "SmallestSpeedModel", name := "counted", desc := "(I)I" } : Jvm.MethodName) prog_14_method_80_code (2 : Nat) (some FieldType.int) ∈ tb := tb_t5 (show tables_1_5[219]? = some _ from rfl) rfl
theorem w_1221 : Cond.methodLink "SmallestSpeedLaw" (155 : Nat) ({ cls := "SmallestSpeedModel", name := "digest", desc := "()J" } : Jvm.MethodName) ∈ tb := tb_t5 (show tables_1_5[220]? = some _ from rfl) rfl
theorem w_1222 : Cond.instanceMethod ({ cls := "SmallestSpeedModel", name := "digest", desc := "()J" } : Jvm.MethodName) ∈ tb := tb_t5 (show tables_1_5[221]? = some _ from rfl) rfl
theorem w_1223 : Cond.selects "SmallestSpeedModel" ({ cls := "SmallestSpeedModel", name := "digest", desc := "()J" } : Jvm.MethodName) ({ cls := "SmallestSpeedModel", name := "digest", desc := "()J" } : Jvm.MethodName) ∈ tb := tb_t5 (show tables_1_5[222]? = some _ from rfl) rfl
theorem w_1224 : Cond.code ({ cls := "SmallestSpeedModel", name := "digest", desc := "()J" } : Jvm.MethodName) prog_14_method_83_code (4 : Nat) (some FieldType.long) ∈ tb := tb_t5 (show tables_1_5[223]? = some _ from rfl) rfl
theorem w_1225 : Cond.constantLong "SmallestSpeedModel" (278 : Nat) (977 : Int64) ∈ tb := tb_t5 (show tables_1_5[224]? = some _ from rfl) rfl
theorem w_1226 : Cond.constantLong "SmallestSpeedModel" (276 : Nat) (31 : Int64) ∈ tb := tb_t5 (show tables_1_5[225]? = some _ from rfl) rfl
theorem w_1227 : Cond.methodLink "SmallestSpeedModel" (280 : Nat) ({ cls := "SmallestSpeedModel", name := "sums", desc := "(JII)J" } : Jvm.MethodName) ∈ tb := tb_t5 (show tables_1_5[226]? = some _ from rfl) rfl
theorem w_1229 : Cond.instanceMethod ({ cls := "SmallestSpeedModel", name := "sums", desc := "(JII)J" } : Jvm.MethodName) ∈ tb := tb_t5 (show tables_1_5[228]? = some _ from rfl) rfl
theorem w_1230 : Cond.code ({ cls := "SmallestSpeedModel", name := "sums", desc := "(JII)J" } : Jvm.MethodName) prog_14_method_82_code (8 : Nat) (some FieldType.long) ∈ tb := tb_t5 (show tables_1_5[229]? = some _ from rfl) rfl
theorem w_1231 : Cond.sameMethod "SmallestSpeed$Held" "SmallestSpeed$Held" "highIn" "(II)I" ∈ tb := tb_t5 (show tables_1_5[230]? = some _ from rfl) rfl
def M_J0_coder_7d493 : MI := (yJ0_coder_7d493, cJ0_coder_7d493, 1, (Option.some FieldType.byte), { frames := 0, cells := 0, slots := 0, locals := 0 })
def M_J0_isLatin1_aae02 : MI := (yJ0_isLatin1_aae02, cJ0_isLatin1_aae02, 1, (Option.some FieldType.boolean), { frames := 0, cells := 0, slots := 0, locals := 0 })
def M_J13_bitCount_95d88 : MI := (yJ13_bitCount_95d88, cJ13_bitCount_95d88, 2, (Option.some FieldType.int), { frames := 0, cells := 0, slots := 0, locals := 0 })
def M_J6_bitCount_0f7a4 : MI := (yJ6_bitCount_0f7a4, cJ6_bitCount_0f7a4, 1, (Option.some FieldType.int), { frames := 0, cells := 0, slots := 0, locals := 0 })
def M_J9_abs_0f7a4 : MI := (yJ9_abs_0f7a4, cJ9_abs_0f7a4, 1, (Option.some FieldType.int), { frames := 0, cells := 0, slots := 0, locals := 0 })
def M_J9_max_7cf53 : MI := (yJ9_max_7cf53, cJ9_max_7cf53, 2, (Option.some FieldType.int), { frames := 0, cells := 0, slots := 0, locals := 0 })
def M_J9_min_7cf53 : MI := (yJ9_min_7cf53, cJ9_min_7cf53, 2, (Option.some FieldType.int), { frames := 0, cells := 0, slots := 0, locals := 0 })
def M_X10_highIn : MI := (yX10_highIn, cX10_highIn, 3, (Option.some FieldType.int), { frames := 0, cells := 0, slots := 0, locals := 0 })
def M_X11_clear : MI := (yX11_clear, cX11_clear, 2, (Option.some FieldType.int), { frames := 0, cells := 0, slots := 0, locals := 0 })
def M_X11_countOf : MI := (yX11_countOf, cX11_countOf, 2, (Option.some FieldType.int), { frames := 0, cells := 0, slots := 0, locals := 0 })
def M_X11_forget : MI := (yX11_forget, cX11_forget, 2, (Option.some FieldType.int), { frames := 0, cells := 0, slots := 0, locals := 0 })
def M_X11_keepFraction : MI := (yX11_keepFraction, cX11_keepFraction, 4, none, { frames := 0, cells := 0, slots := 0, locals := 0 })
def M_X11_noneIfNever : MI := (yX11_noneIfNever, cX11_noneIfNever, 1, (Option.some FieldType.int), { frames := 0, cells := 0, slots := 0, locals := 0 })
def M_X11_refuseBad : MI := (yX11_refuseBad, cX11_refuseBad, 2, (Option.some FieldType.int), { frames := 0, cells := 0, slots := 0, locals := 0 })
def M_X11_refuseFull : MI := (yX11_refuseFull, cX11_refuseFull, 1, (Option.some FieldType.int), { frames := 0, cells := 0, slots := 0, locals := 0 })
def M_X11_refuseNo : MI := (yX11_refuseNo, cX11_refuseNo, 1, (Option.some FieldType.int), { frames := 0, cells := 0, slots := 0, locals := 0 })
def M_X11_stop : MI := (yX11_stop, cX11_stop, 2, (Option.some FieldType.int), { frames := 0, cells := 0, slots := 0, locals := 0 })
def M_X11_within : MI := (yX11_within, cX11_within, 3, (Option.some FieldType.boolean), { frames := 0, cells := 0, slots := 0, locals := 0 })
def M_X12_apart : MI := (yX12_apart, cX12_apart, 2, (Option.some FieldType.int), { frames := 0, cells := 0, slots := 0, locals := 0 })
def M_X12_bad : MI := (yX12_bad, cX12_bad, 2, (Option.some FieldType.int), { frames := 0, cells := 0, slots := 0, locals := 0 })
def M_X12_begin : MI := (yX12_begin, cX12_begin, 4, none, { frames := 0, cells := 0, slots := 0, locals := 0 })
def M_X12_bits : MI := (yX12_bits, cX12_bits, 3, (Option.some FieldType.int), { frames := 0, cells := 0, slots := 0, locals := 0 })
def M_X12_children : MI := (yX12_children, cX12_children, 1, (Option.some FieldType.int), { frames := 0, cells := 0, slots := 0, locals := 0 })
def M_X12_clear : MI := (yX12_clear, cX12_clear, 2, (Option.some FieldType.int), { frames := 0, cells := 0, slots := 0, locals := 0 })
def M_X12_counted : MI := (yX12_counted, cX12_counted, 2, (Option.some FieldType.int), { frames := 0, cells := 0, slots := 0, locals := 0 })
def M_X12_forget : MI := (yX12_forget, cX12_forget, 2, (Option.some FieldType.int), { frames := 0, cells := 0, slots := 0, locals := 0 })
def M_X12_fraction : MI := (yX12_fraction, cX12_fraction, 6, none, { frames := 0, cells := 0, slots := 0, locals := 0 })
def M_X12_full : MI := (yX12_full, cX12_full, 1, (Option.some FieldType.int), { frames := 0, cells := 0, slots := 0, locals := 0 })
def M_X12_get : MI := (yX12_get, cX12_get, 3, (Option.some FieldType.int), { frames := 0, cells := 0, slots := 0, locals := 0 })
def M_X12_in : MI := (yX12_in, cX12_in, 6, (Option.some FieldType.boolean), { frames := 0, cells := 0, slots := 0, locals := 0 })
def M_X12_isCalled : MI := (yX12_isCalled, cX12_isCalled, 9, (Option.some FieldType.boolean), { frames := 0, cells := 0, slots := 0, locals := 0 })
def M_X12_layChild : MI := (yX12_layChild, cX12_layChild, 7, none, { frames := 0, cells := 0, slots := 0, locals := 0 })
def M_X12_least : MI := (yX12_least, cX12_least, 2, (Option.some FieldType.int), { frames := 0, cells := 0, slots := 0, locals := 0 })
def M_X12_most : MI := (yX12_most, cX12_most, 2, (Option.some FieldType.int), { frames := 0, cells := 0, slots := 0, locals := 0 })
def M_X12_no : MI := (yX12_no, cX12_no, 1, (Option.some FieldType.int), { frames := 0, cells := 0, slots := 0, locals := 0 })
def M_X12_orNone : MI := (yX12_orNone, cX12_orNone, 1, (Option.some FieldType.int), { frames := 0, cells := 0, slots := 0, locals := 0 })
def M_X12_rests : MI := (yX12_rests, cX12_rests, 5, (Option.some FieldType.boolean), { frames := 0, cells := 0, slots := 0, locals := 0 })
def M_X12_stop : MI := (yX12_stop, cX12_stop, 2, (Option.some FieldType.int), { frames := 0, cells := 0, slots := 0, locals := 0 })
def M_X12_sums : MI := (yX12_sums, cX12_sums, 8, (Option.some FieldType.long), { frames := 0, cells := 0, slots := 0, locals := 0 })
def M_X1_getsAgainst : MI := (yX1_getsAgainst, cX1_getsAgainst, 4, (Option.some FieldType.int), { frames := 0, cells := 0, slots := 0, locals := 0 })
def M_X4_highByRank : MI := (yX4_highByRank, cX4_highByRank, 1, (Option.some FieldType.int), { frames := 0, cells := 0, slots := 0, locals := 0 })
def M_X4_kindOf : MI := (yX4_kindOf, cX4_kindOf, 2, (Option.some (FieldType.object "SmallestSpeed$Walker")), { frames := 0, cells := 0, slots := 0, locals := 0 })
def M_X4_outBetween : MI := (yX4_outBetween, cX4_outBetween, 6, (Option.some FieldType.int), { frames := 0, cells := 0, slots := 0, locals := 0 })
def M_X6_addChild : MI := (yX6_addChild, cX6_addChild, 6, none, { frames := 0, cells := 0, slots := 0, locals := 0 })
def M_X6_addReading : MI := (yX6_addReading, cX6_addReading, 4, none, { frames := 0, cells := 0, slots := 0, locals := 0 })
def M_X6_addSpeed : MI := (yX6_addSpeed, cX6_addSpeed, 2, none, { frames := 0, cells := 0, slots := 0, locals := 0 })
def M_X6_begin : MI := (yX6_begin, cX6_begin, 3, none, { frames := 0, cells := 0, slots := 0, locals := 0 })
def M_X6_digestOn : MI := (yX6_digestOn, cX6_digestOn, 6, (Option.some FieldType.long), { frames := 0, cells := 0, slots := 0, locals := 0 })
def M_X6_everyChild : MI := (yX6_everyChild, cX6_everyChild, 1, (Option.some FieldType.int), { frames := 0, cells := 0, slots := 0, locals := 0 })
def M_X6_undoLast : MI := (yX6_undoLast, cX6_undoLast, 2, none, { frames := 0, cells := 0, slots := 0, locals := 0 })
def M_X7_append : MI := (yX7_append, cX7_append, 2, none, { frames := 0, cells := 0, slots := 0, locals := 0 })
def M_X7_endOfRun : MI := (yX7_endOfRun, cX7_endOfRun, 4, (Option.some FieldType.int), { frames := 0, cells := 0, slots := 0, locals := 0 })
def M_X7_isAtEnd : MI := (yX7_isAtEnd, cX7_isAtEnd, 1, (Option.some FieldType.boolean), { frames := 0, cells := 0, slots := 0, locals := 0 })
def M_J0_checkIndex_df160 : MI := (yJ0_checkIndex_df160, cJ0_checkIndex_df160, 2, none, { frames := 1, cells := 0, slots := 0, locals := 32 })
def M_J0_length_8abf5 : MI := (yJ0_length_8abf5, cJ0_length_8abf5, 1, (Option.some FieldType.int), { frames := 1, cells := 0, slots := 0, locals := 32 })
def M_X0_highIn : MI := (yX0_highIn, cX0_highIn, 3, (Option.some FieldType.int), { frames := 1, cells := 0, slots := 0, locals := 32 })
def M_X10_cellIn : MI := (yX10_cellIn, cX10_cellIn, 4, (Option.some FieldType.int), { frames := 1, cells := 0, slots := 0, locals := 32 })
def M_X10_init : MI := (yX10_init, cX10_init, 1, none, { frames := 1, cells := 0, slots := 0, locals := 32 })
def M_X11_count : MI := (yX11_count, cX11_count, 2, (Option.some FieldType.int), { frames := 1, cells := 0, slots := 0, locals := 32 })
def M_X11_digest : MI := (yX11_digest, cX11_digest, 4, (Option.some FieldType.long), { frames := 1, cells := 0, slots := 0, locals := 32 })
def M_X11_isCell : MI := (yX11_isCell, cX11_isCell, 1, (Option.some FieldType.boolean), { frames := 1, cells := 0, slots := 0, locals := 32 })
def M_X11_isChild : MI := (yX11_isChild, cX11_isChild, 2, (Option.some FieldType.boolean), { frames := 1, cells := 0, slots := 0, locals := 32 })
def M_X11_isMinute : MI := (yX11_isMinute, cX11_isMinute, 1, (Option.some FieldType.boolean), { frames := 1, cells := 0, slots := 0, locals := 32 })
def M_X11_isZeroOrOne : MI := (yX11_isZeroOrOne, cX11_isZeroOrOne, 1, (Option.some FieldType.boolean), { frames := 1, cells := 0, slots := 0, locals := 32 })
def M_X11_road : MI := (yX11_road, cX11_road, 4, (Option.some FieldType.int), { frames := 1, cells := 0, slots := 0, locals := 32 })
def M_X11_rule : MI := (yX11_rule, cX11_rule, 3, (Option.some FieldType.int), { frames := 1, cells := 0, slots := 0, locals := 32 })
def M_X11_sight : MI := (yX11_sight, cX11_sight, 3, (Option.some FieldType.int), { frames := 1, cells := 0, slots := 0, locals := 32 })
def M_X11_speed : MI := (yX11_speed, cX11_speed, 2, (Option.some FieldType.int), { frames := 1, cells := 0, slots := 0, locals := 32 })
def M_X11_status : MI := (yX11_status, cX11_status, 2, (Option.some FieldType.int), { frames := 1, cells := 0, slots := 0, locals := 32 })
def M_X11_type : MI := (yX11_type, cX11_type, 2, (Option.some FieldType.int), { frames := 1, cells := 0, slots := 0, locals := 32 })
def M_X11_undo : MI := (yX11_undo, cX11_undo, 1, (Option.some FieldType.int), { frames := 1, cells := 0, slots := 0, locals := 32 })
def M_X12_all : MI := (yX12_all, cX12_all, 1, (Option.some FieldType.int), { frames := 1, cells := 0, slots := 0, locals := 32 })
def M_X12_cellOf : MI := (yX12_cellOf, cX12_cellOf, 5, (Option.some FieldType.int), { frames := 1, cells := 0, slots := 0, locals := 32 })
def M_X12_count : MI := (yX12_count, cX12_count, 2, (Option.some FieldType.int), { frames := 1, cells := 0, slots := 0, locals := 32 })
def M_X12_countsOf : MI := (yX12_countsOf, cX12_countsOf, 5, (Option.some FieldType.int), { frames := 1, cells := 0, slots := 0, locals := 32 })
def M_X12_digest : MI := (yX12_digest, cX12_digest, 4, (Option.some FieldType.long), { frames := 1, cells := 0, slots := 0, locals := 32 })
def M_X12_from : MI := (yX12_from, cX12_from, 3, (Option.some FieldType.int), { frames := 1, cells := 0, slots := 0, locals := 32 })
def M_X12_image : MI := (yX12_image, cX12_image, 3, (Option.some FieldType.int), { frames := 1, cells := 0, slots := 0, locals := 32 })
def M_X12_init : MI := (yX12_init, cX12_init, 1, none, { frames := 1, cells := 14, slots := 962, locals := 32 })
def M_X12_isCell : MI := (yX12_isCell, cX12_isCell, 1, (Option.some FieldType.boolean), { frames := 1, cells := 0, slots := 0, locals := 32 })
def M_X12_isChild : MI := (yX12_isChild, cX12_isChild, 2, (Option.some FieldType.boolean), { frames := 1, cells := 0, slots := 0, locals := 32 })
def M_X12_isFigure : MI := (yX12_isFigure, cX12_isFigure, 1, (Option.some FieldType.boolean), { frames := 1, cells := 0, slots := 0, locals := 32 })
def M_X12_isMinute : MI := (yX12_isMinute, cX12_isMinute, 1, (Option.some FieldType.boolean), { frames := 1, cells := 0, slots := 0, locals := 32 })
def M_X12_isOut : MI := (yX12_isOut, cX12_isOut, 3, (Option.some FieldType.boolean), { frames := 1, cells := 0, slots := 0, locals := 32 })
def M_X12_isSmall : MI := (yX12_isSmall, cX12_isSmall, 1, (Option.some FieldType.boolean), { frames := 1, cells := 0, slots := 0, locals := 32 })
def M_X12_keep : MI := (yX12_keep, cX12_keep, 3, none, { frames := 1, cells := 0, slots := 0, locals := 32 })
def M_X12_layHand : MI := (yX12_layHand, cX12_layHand, 3, none, { frames := 1, cells := 0, slots := 0, locals := 32 })
def M_X12_part : MI := (yX12_part, cX12_part, 2, (Option.some FieldType.long), { frames := 1, cells := 0, slots := 0, locals := 32 })
def M_X12_road : MI := (yX12_road, cX12_road, 4, (Option.some FieldType.int), { frames := 1, cells := 0, slots := 0, locals := 32 })
def M_X12_rule : MI := (yX12_rule, cX12_rule, 3, (Option.some FieldType.int), { frames := 1, cells := 0, slots := 0, locals := 32 })
def M_X12_sight : MI := (yX12_sight, cX12_sight, 3, (Option.some FieldType.int), { frames := 1, cells := 0, slots := 0, locals := 32 })
def M_X12_speed : MI := (yX12_speed, cX12_speed, 2, (Option.some FieldType.int), { frames := 1, cells := 0, slots := 0, locals := 32 })
def M_X12_status : MI := (yX12_status, cX12_status, 2, (Option.some FieldType.int), { frames := 1, cells := 0, slots := 0, locals := 32 })
def M_X12_type : MI := (yX12_type, cX12_type, 2, (Option.some FieldType.int), { frames := 1, cells := 0, slots := 0, locals := 32 })
def M_X12_undo : MI := (yX12_undo, cX12_undo, 3, (Option.some FieldType.int), { frames := 1, cells := 0, slots := 0, locals := 32 })
def M_X1_isBestAgainst : MI := (yX1_isBestAgainst, cX1_isBestAgainst, 5, (Option.some FieldType.boolean), { frames := 1, cells := 0, slots := 0, locals := 32 })
def M_X2_highIn : MI := (yX2_highIn, cX2_highIn, 3, (Option.some FieldType.int), { frames := 1, cells := 0, slots := 0, locals := 32 })
def M_X3_highIn : MI := (yX3_highIn, cX3_highIn, 3, (Option.some FieldType.int), { frames := 1, cells := 0, slots := 0, locals := 32 })
def M_X4_isSeen : MI := (yX4_isSeen, cX4_isSeen, 5, (Option.some FieldType.boolean), { frames := 1, cells := 0, slots := 0, locals := 32 })
def M_X5_cellIn : MI := (yX5_cellIn, cX5_cellIn, 4, (Option.some FieldType.int), { frames := 1, cells := 0, slots := 0, locals := 32 })
def M_X6_copyFrom : MI := (yX6_copyFrom, cX6_copyFrom, 2, none, { frames := 1, cells := 0, slots := 0, locals := 32 })
def M_X6_init : MI := (yX6_init, cX6_init, 1, none, { frames := 1, cells := 12, slots := 92, locals := 32 })
def M_X6_keepForUndo : MI := (yX6_keepForUndo, cX6_keepForUndo, 4, none, { frames := 1, cells := 0, slots := 0, locals := 32 })
def M_X7_init : MI := (yX7_init, cX7_init, 1, none, { frames := 1, cells := 1, slots := 150, locals := 32 })
def M_X7_readNumber : MI := (yX7_readNumber, cX7_readNumber, 6, (Option.some FieldType.int), { frames := 1, cells := 0, slots := 0, locals := 32 })
def M_X7_readSemicolon : MI := (yX7_readSemicolon, cX7_readSemicolon, 1, (Option.some FieldType.boolean), { frames := 1, cells := 0, slots := 0, locals := 32 })
def M_X8_inAllSets : MI := (yX8_inAllSets, cX8_inAllSets, 6, (Option.some FieldType.int), { frames := 1, cells := 0, slots := 0, locals := 32 })
def M_J1_charAt_3b067 : MI := (yJ1_charAt_3b067, cJ1_charAt_3b067, 2, (Option.some FieldType.char), { frames := 2, cells := 0, slots := 0, locals := 64 })
def M_X11_bed : MI := (yX11_bed, cX11_bed, 4, (Option.some FieldType.int), { frames := 2, cells := 0, slots := 0, locals := 64 })
def M_X11_child : MI := (yX11_child, cX11_child, 7, (Option.some FieldType.int), { frames := 2, cells := 0, slots := 0, locals := 64 })
def M_X11_from : MI := (yX11_from, cX11_from, 3, (Option.some FieldType.int), { frames := 2, cells := 0, slots := 0, locals := 64 })
def M_X11_image : MI := (yX11_image, cX11_image, 2, (Option.some FieldType.int), { frames := 2, cells := 0, slots := 0, locals := 64 })
def M_X11_part : MI := (yX11_part, cX11_part, 2, (Option.some FieldType.long), { frames := 2, cells := 0, slots := 0, locals := 64 })
def M_X11_reading : MI := (yX11_reading, cX11_reading, 4, (Option.some FieldType.int), { frames := 2, cells := 0, slots := 0, locals := 64 })
def M_X11_stand : MI := (yX11_stand, cX11_stand, 4, (Option.some FieldType.int), { frames := 2, cells := 0, slots := 0, locals := 64 })
def M_X12_child : MI := (yX12_child, cX12_child, 6, (Option.some FieldType.int), { frames := 2, cells := 0, slots := 0, locals := 64 })
def M_X12_isSeen : MI := (yX12_isSeen, cX12_isSeen, 4, (Option.some FieldType.boolean), { frames := 2, cells := 0, slots := 0, locals := 64 })
def M_X12_lookAt : MI := (yX12_lookAt, cX12_lookAt, 5, none, { frames := 2, cells := 0, slots := 0, locals := 64 })
def M_X12_of : MI := (yX12_of, cX12_of, 4, (Option.some FieldType.int), { frames := 2, cells := 0, slots := 0, locals := 64 })
def M_X12_pastIn : MI := (yX12_pastIn, cX12_pastIn, 6, (Option.some FieldType.int), { frames := 2, cells := 0, slots := 0, locals := 64 })
def M_X12_reading : MI := (yX12_reading, cX12_reading, 5, (Option.some FieldType.int), { frames := 2, cells := 0, slots := 0, locals := 64 })
def M_X12_tellAnew : MI := (yX12_tellAnew, cX12_tellAnew, 5, (Option.some FieldType.int), { frames := 2, cells := 0, slots := 0, locals := 64 })
def M_X2_init : MI := (yX2_init, cX2_init, 1, none, { frames := 2, cells := 0, slots := 0, locals := 64 })
def M_X3_init : MI := (yX3_init, cX3_init, 1, none, { frames := 2, cells := 0, slots := 0, locals := 64 })
def M_X4_lowestIn : MI := (yX4_lowestIn, cX4_lowestIn, 6, (Option.some FieldType.int), { frames := 2, cells := 0, slots := 0, locals := 64 })
def M_X4_nearestBehind : MI := (yX4_nearestBehind, cX4_nearestBehind, 8, (Option.some FieldType.int), { frames := 2, cells := 0, slots := 0, locals := 64 })
def M_X5_init : MI := (yX5_init, cX5_init, 1, none, { frames := 2, cells := 0, slots := 0, locals := 64 })
def M_X9_highIn : MI := (yX9_highIn, cX9_highIn, 3, (Option.some FieldType.int), { frames := 2, cells := 0, slots := 0, locals := 64 })
def M_X0_init : MI := (yX0_init, cX0_init, 1, none, { frames := 3, cells := 0, slots := 0, locals := 96 })
def M_X12_bed : MI := (yX12_bed, cX12_bed, 3, (Option.some FieldType.int), { frames := 3, cells := 0, slots := 0, locals := 96 })
def M_X12_goBehind : MI := (yX12_goBehind, cX12_goBehind, 1, none, { frames := 3, cells := 0, slots := 0, locals := 96 })
def M_X12_lowest : MI := (yX12_lowest, cX12_lowest, 5, (Option.some FieldType.int), { frames := 3, cells := 0, slots := 0, locals := 96 })
def M_X12_nearest : MI := (yX12_nearest, cX12_nearest, 9, (Option.some FieldType.int), { frames := 3, cells := 0, slots := 0, locals := 96 })
def M_X12_stand : MI := (yX12_stand, cX12_stand, 3, (Option.some FieldType.int), { frames := 3, cells := 0, slots := 0, locals := 96 })
def M_X4_limitIn : MI := (yX4_limitIn, cX4_limitIn, 6, (Option.some FieldType.int), { frames := 3, cells := 0, slots := 0, locals := 96 })
def M_X4_nearestChild : MI := (yX4_nearestChild, cX4_nearestChild, 4, (Option.some FieldType.int), { frames := 3, cells := 0, slots := 0, locals := 96 })
def M_X4_see : MI := (yX4_see, cX4_see, 5, none, { frames := 3, cells := 0, slots := 0, locals := 96 })
def M_X9_init : MI := (yX9_init, cX9_init, 1, none, { frames := 3, cells := 0, slots := 0, locals := 96 })
def M_J0_charAt_5068e : MI := (yJ0_charAt_5068e, cJ0_charAt_5068e, 2, (Option.some FieldType.char), { frames := 4, cells := 0, slots := 0, locals := 128 })
def M_X11_limit : MI := (yX11_limit, cX11_limit, 4, (Option.some FieldType.int), { frames := 4, cells := 0, slots := 0, locals := 128 })
def M_X11_of : MI := (yX11_of, cX11_of, 4, (Option.some FieldType.int), { frames := 4, cells := 0, slots := 0, locals := 128 })
def M_X12_limitAt : MI := (yX12_limitAt, cX12_limitAt, 6, (Option.some FieldType.int), { frames := 4, cells := 0, slots := 0, locals := 128 })
def M_X12_takes : MI := (yX12_takes, cX12_takes, 4, (Option.some FieldType.boolean), { frames := 4, cells := 0, slots := 0, locals := 128 })
def M_X1_cellOfDrive : MI := (yX1_cellOfDrive, cX1_cellOfDrive, 6, (Option.some FieldType.int), { frames := 4, cells := 0, slots := 0, locals := 128 })
def M_X1_driveBySpeeds : MI := (yX1_driveBySpeeds, cX1_driveBySpeeds, 11, (Option.some FieldType.int), { frames := 4, cells := 0, slots := 0, locals := 128 })
def M_X1_endOfDrive : MI := (yX1_endOfDrive, cX1_endOfDrive, 6, (Option.some FieldType.int), { frames := 4, cells := 0, slots := 0, locals := 128 })
def M_X1_soonestEnd : MI := (yX1_soonestEnd, cX1_soonestEnd, 8, (Option.some FieldType.int), { frames := 4, cells := 0, slots := 0, locals := 128 })
def M_X4_init : MI := (yX4_init, cX4_init, 1, none, { frames := 4, cells := 8, slots := 12, locals := 128 })
def M_X8_isAsRead : MI := (yX8_isAsRead, cX8_isAsRead, 4, (Option.some FieldType.boolean), { frames := 4, cells := 0, slots := 0, locals := 128 })
def M_X8_mostAlike : MI := (yX8_mostAlike, cX8_mostAlike, 8, (Option.some FieldType.int), { frames := 4, cells := 0, slots := 0, locals := 128 })
def M_X11_fined : MI := (yX11_fined, cX11_fined, 3, (Option.some FieldType.int), { frames := 5, cells := 0, slots := 0, locals := 160 })
def M_X11_soonest : MI := (yX11_soonest, cX11_soonest, 2, (Option.some FieldType.int), { frames := 5, cells := 0, slots := 0, locals := 160 })
def M_X11_there : MI := (yX11_there, cX11_there, 2, (Option.some FieldType.int), { frames := 5, cells := 0, slots := 0, locals := 160 })
def M_X11_where : MI := (yX11_where, cX11_where, 3, (Option.some FieldType.int), { frames := 5, cells := 0, slots := 0, locals := 160 })
def M_X12_areSo : MI := (yX12_areSo, cX12_areSo, 4, (Option.some FieldType.boolean), { frames := 5, cells := 0, slots := 0, locals := 160 })
def M_X12_fined : MI := (yX12_fined, cX12_fined, 11, (Option.some FieldType.int), { frames := 5, cells := 0, slots := 0, locals := 160 })
def M_X12_goOn : MI := (yX12_goOn, cX12_goOn, 5, none, { frames := 5, cells := 0, slots := 0, locals := 160 })
def M_X12_limit : MI := (yX12_limit, cX12_limit, 4, (Option.some FieldType.int), { frames := 5, cells := 0, slots := 0, locals := 160 })
def M_X12_mostLike : MI := (yX12_mostLike, cX12_mostLike, 6, (Option.some FieldType.int), { frames := 5, cells := 0, slots := 0, locals := 160 })
def M_X12_takesChild : MI := (yX12_takesChild, cX12_takesChild, 1, (Option.some FieldType.boolean), { frames := 5, cells := 0, slots := 0, locals := 160 })
def M_X12_takesFirst : MI := (yX12_takesFirst, cX12_takesFirst, 1, (Option.some FieldType.boolean), { frames := 5, cells := 0, slots := 0, locals := 160 })
def M_X12_thereFrom : MI := (yX12_thereFrom, cX12_thereFrom, 4, (Option.some FieldType.int), { frames := 5, cells := 0, slots := 0, locals := 160 })
def M_X12_whereAt : MI := (yX12_whereAt, cX12_whereAt, 5, (Option.some FieldType.int), { frames := 5, cells := 0, slots := 0, locals := 160 })
def M_X1_bestMove : MI := (yX1_bestMove, cX1_bestMove, 9, (Option.some FieldType.int), { frames := 5, cells := 0, slots := 0, locals := 160 })
def M_X1_bestStart : MI := (yX1_bestStart, cX1_bestStart, 7, (Option.some FieldType.int), { frames := 5, cells := 0, slots := 0, locals := 160 })
def M_X1_bestToBed : MI := (yX1_bestToBed, cX1_bestToBed, 10, (Option.some FieldType.int), { frames := 5, cells := 0, slots := 0, locals := 160 })
def M_X1_init : MI := (yX1_init, cX1_init, 1, none, { frames := 5, cells := 10, slots := 26, locals := 160 })
def M_X1_minutesOfDays : MI := (yX1_minutesOfDays, cX1_minutesOfDays, 11, (Option.some FieldType.int), { frames := 5, cells := 0, slots := 0, locals := 160 })
def M_X1_restingPairs : MI := (yX1_restingPairs, cX1_restingPairs, 8, (Option.some FieldType.int), { frames := 5, cells := 0, slots := 0, locals := 160 })
def M_X7_readWord : MI := (yX7_readWord, cX7_readWord, 4, (Option.some FieldType.boolean), { frames := 5, cells := 0, slots := 0, locals := 160 })
def M_X8_bestCell : MI := (yX8_bestCell, cX8_bestCell, 9, (Option.some FieldType.int), { frames := 5, cells := 0, slots := 0, locals := 160 })
def M_X8_fittingSets : MI := (yX8_fittingSets, cX8_fittingSets, 5, (Option.some FieldType.long), { frames := 5, cells := 0, slots := 0, locals := 160 })
def M_X8_init : MI := (yX8_init, cX8_init, 1, none, { frames := 5, cells := 10, slots := 30, locals := 160 })
def M_X8_possibleDolls : MI := (yX8_possibleDolls, cX8_possibleDolls, 5, (Option.some FieldType.int), { frames := 5, cells := 0, slots := 0, locals := 160 })
def M_X11_carters : MI := (yX11_carters, cX11_carters, 3, (Option.some FieldType.int), { frames := 6, cells := 0, slots := 0, locals := 192 })
def M_X11_days : MI := (yX11_days, cX11_days, 4, (Option.some FieldType.int), { frames := 6, cells := 0, slots := 0, locals := 192 })
def M_X11_dolls : MI := (yX11_dolls, cX11_dolls, 1, (Option.some FieldType.int), { frames := 6, cells := 0, slots := 0, locals := 192 })
def M_X11_init : MI := (yX11_init, cX11_init, 1, none, { frames := 6, cells := 85, slots := 673, locals := 192 })
def M_X11_look : MI := (yX11_look, cX11_look, 2, (Option.some FieldType.int), { frames := 6, cells := 0, slots := 0, locals := 192 })
def M_X11_move : MI := (yX11_move, cX11_move, 2, (Option.some FieldType.int), { frames := 6, cells := 0, slots := 0, locals := 192 })
def M_X11_out : MI := (yX11_out, cX11_out, 4, (Option.some FieldType.int), { frames := 6, cells := 0, slots := 0, locals := 192 })
def M_X11_start : MI := (yX11_start, cX11_start, 2, (Option.some FieldType.int), { frames := 6, cells := 0, slots := 0, locals := 192 })
def M_X11_toBed : MI := (yX11_toBed, cX11_toBed, 5, (Option.some FieldType.int), { frames := 6, cells := 0, slots := 0, locals := 192 })
def M_X12_days : MI := (yX12_days, cX12_days, 10, (Option.some FieldType.int), { frames := 6, cells := 0, slots := 0, locals := 192 })
def M_X12_dolls : MI := (yX12_dolls, cX12_dolls, 3, (Option.some FieldType.int), { frames := 6, cells := 0, slots := 0, locals := 192 })
def M_X12_layGets : MI := (yX12_layGets, cX12_layGets, 5, none, { frames := 6, cells := 0, slots := 0, locals := 192 })
def M_X12_look : MI := (yX12_look, cX12_look, 7, (Option.some FieldType.int), { frames := 6, cells := 0, slots := 0, locals := 192 })
def M_X12_move : MI := (yX12_move, cX12_move, 7, (Option.some FieldType.int), { frames := 6, cells := 0, slots := 0, locals := 192 })
def M_X12_out : MI := (yX12_out, cX12_out, 6, (Option.some FieldType.int), { frames := 6, cells := 0, slots := 0, locals := 192 })
def M_X12_read : MI := (yX12_read, cX12_read, 3, (Option.some FieldType.int), { frames := 6, cells := 0, slots := 0, locals := 192 })
def M_X12_soonestFrom : MI := (yX12_soonestFrom, cX12_soonestFrom, 3, (Option.some FieldType.int), { frames := 6, cells := 0, slots := 0, locals := 192 })
def M_X12_start : MI := (yX12_start, cX12_start, 6, (Option.some FieldType.int), { frames := 6, cells := 0, slots := 0, locals := 192 })
def M_X12_there : MI := (yX12_there, cX12_there, 2, (Option.some FieldType.int), { frames := 6, cells := 0, slots := 0, locals := 192 })
def M_X12_where : MI := (yX12_where, cX12_where, 3, (Option.some FieldType.int), { frames := 6, cells := 0, slots := 0, locals := 192 })
def M_X7_readChildItem : MI := (yX7_readChildItem, cX7_readChildItem, 7, (Option.some FieldType.boolean), { frames := 6, cells := 0, slots := 0, locals := 192 })
def M_X7_readRoadItem : MI := (yX7_readRoadItem, cX7_readRoadItem, 4, (Option.some FieldType.boolean), { frames := 6, cells := 0, slots := 0, locals := 192 })
def M_X12_carters : MI := (yX12_carters, cX12_carters, 6, (Option.some FieldType.int), { frames := 7, cells := 0, slots := 0, locals := 224 })
def M_X12_soonest : MI := (yX12_soonest, cX12_soonest, 2, (Option.some FieldType.int), { frames := 7, cells := 0, slots := 0, locals := 224 })
def M_X12_toBed : MI := (yX12_toBed, cX12_toBed, 9, (Option.some FieldType.int), { frames := 7, cells := 0, slots := 0, locals := 224 })
def M_X7_readInto : MI := (yX7_readInto, cX7_readInto, 4, (Option.some FieldType.int), { frames := 7, cells := 0, slots := 0, locals := 224 })
def M_X11_read : MI := (yX11_read, cX11_read, 2, (Option.some FieldType.int), { frames := 8, cells := 0, slots := 0, locals := 256 })
def M_L_law : MI := (⟨"SmallestSpeedLaw", "law", "([I)Z"⟩, code, 4, some .boolean, room_1)
theorem i_X0 : ∀ w ∈ u_ws RX0 TX0 0, w ∈ tb := fun _ h => absurd h List.not_mem_nil
theorem i_X1 : ∀ w ∈ u_ws RX1 TX1 2, w ∈ tb := by
  show ∀ w ∈ [u_lay RX1 TX1 0, u_lay RX1 TX1 1], w ∈ tb
  exact List.forall_mem_cons.mpr ⟨w_265, List.forall_mem_cons.mpr ⟨w_267, fun _ h => absurd h List.not_mem_nil⟩⟩
theorem i_X2 : ∀ w ∈ u_ws RX2 TX2 0, w ∈ tb := fun _ h => absurd h List.not_mem_nil
theorem i_X3 : ∀ w ∈ u_ws RX3 TX3 0, w ∈ tb := fun _ h => absurd h List.not_mem_nil
theorem i_X4 : ∀ w ∈ u_ws RX4 TX4 8, w ∈ tb := by
  show ∀ w ∈ [u_lay RX4 TX4 0, u_lay RX4 TX4 1, u_lay RX4 TX4 2, u_lay RX4 TX4 3, u_lay RX4 TX4 4, u_lay RX4 TX4 5, u_lay RX4 TX4 6, u_lay RX4 TX4 7], w ∈ tb
  exact List.forall_mem_cons.mpr ⟨w_238, List.forall_mem_cons.mpr ⟨w_240, List.forall_mem_cons.mpr ⟨w_242, List.forall_mem_cons.mpr ⟨w_244, List.forall_mem_cons.mpr ⟨w_246, List.forall_mem_cons.mpr ⟨w_248, List.forall_mem_cons.mpr ⟨w_250, List.forall_mem_cons.mpr ⟨w_252, fun _ h => absurd h List.not_mem_nil⟩⟩⟩⟩⟩⟩⟩⟩
theorem i_X5 : ∀ w ∈ u_ws RX5 TX5 0, w ∈ tb := fun _ h => absurd h List.not_mem_nil
theorem i_X6 : ∀ w ∈ u_ws RX6 TX6 18, w ∈ tb := by
  show ∀ w ∈ [u_lay RX6 TX6 0, u_lay RX6 TX6 1, u_lay RX6 TX6 2, u_lay RX6 TX6 3, u_lay RX6 TX6 4, u_lay RX6 TX6 5, u_lay RX6 TX6 6, u_lay RX6 TX6 7, u_lay RX6 TX6 8, u_lay RX6 TX6 9, u_lay RX6 TX6 10, u_lay RX6 TX6 11, u_lay RX6 TX6 12, u_lay RX6 TX6 13, u_lay RX6 TX6 14, u_lay RX6 TX6 15, u_lay RX6 TX6 16, u_lay RX6 TX6 17], w ∈ tb
  exact List.forall_mem_cons.mpr ⟨w_124, List.forall_mem_cons.mpr ⟨w_126, List.forall_mem_cons.mpr ⟨w_128, List.forall_mem_cons.mpr ⟨w_130, List.forall_mem_cons.mpr ⟨w_132, List.forall_mem_cons.mpr ⟨w_134, List.forall_mem_cons.mpr ⟨w_136, List.forall_mem_cons.mpr ⟨w_138, List.forall_mem_cons.mpr ⟨w_140, List.forall_mem_cons.mpr ⟨w_142, List.forall_mem_cons.mpr ⟨w_144, List.forall_mem_cons.mpr ⟨w_146, List.forall_mem_cons.mpr ⟨w_148, List.forall_mem_cons.mpr ⟨w_150, List.forall_mem_cons.mpr ⟨w_152, List.forall_mem_cons.mpr ⟨w_154, List.forall_mem_cons.mpr ⟨w_156, List.forall_mem_cons.mpr ⟨w_158, fun _ h => absurd h List.not_mem_nil⟩⟩⟩⟩⟩⟩⟩⟩⟩⟩⟩⟩⟩⟩⟩⟩⟩⟩
theorem i_X7 : ∀ w ∈ u_ws RX7 TX7 3, w ∈ tb := by
  show ∀ w ∈ [u_lay RX7 TX7 0, u_lay RX7 TX7 1, u_lay RX7 TX7 2], w ∈ tb
  exact List.forall_mem_cons.mpr ⟨w_173, List.forall_mem_cons.mpr ⟨w_175, List.forall_mem_cons.mpr ⟨w_177, fun _ h => absurd h List.not_mem_nil⟩⟩⟩
theorem i_X8 : ∀ w ∈ u_ws RX8 TX8 2, w ∈ tb := by
  show ∀ w ∈ [u_lay RX8 TX8 0, u_lay RX8 TX8 1], w ∈ tb
  exact List.forall_mem_cons.mpr ⟨w_280, List.forall_mem_cons.mpr ⟨w_282, fun _ h => absurd h List.not_mem_nil⟩⟩
theorem i_X9 : ∀ w ∈ u_ws RX9 TX9 0, w ∈ tb := fun _ h => absurd h List.not_mem_nil
theorem i_X10 : ∀ w ∈ u_ws RX10 TX10 0, w ∈ tb := fun _ h => absurd h List.not_mem_nil
theorem i_X11 : ∀ w ∈ u_ws RX11 TX11 15, w ∈ tb := by
  show ∀ w ∈ [u_lay RX11 TX11 0, u_lay RX11 TX11 1, u_lay RX11 TX11 2, u_lay RX11 TX11 3, u_lay RX11 TX11 4, u_lay RX11 TX11 5, u_lay RX11 TX11 6, u_lay RX11 TX11 7, u_lay RX11 TX11 8, u_lay RX11 TX11 9, u_lay RX11 TX11 10, u_lay RX11 TX11 11, u_lay RX11 TX11 12, u_lay RX11 TX11 13, u_lay RX11 TX11 14], w ∈ tb
  exact List.forall_mem_cons.mpr ⟨w_300, List.forall_mem_cons.mpr ⟨w_302, List.forall_mem_cons.mpr ⟨w_304, List.forall_mem_cons.mpr ⟨w_306, List.forall_mem_cons.mpr ⟨w_308, List.forall_mem_cons.mpr ⟨w_310, List.forall_mem_cons.mpr ⟨w_312, List.forall_mem_cons.mpr ⟨w_314, List.forall_mem_cons.mpr ⟨w_316, List.forall_mem_cons.mpr ⟨w_318, List.forall_mem_cons.mpr ⟨w_320, List.forall_mem_cons.mpr ⟨w_322, List.forall_mem_cons.mpr ⟨w_324, List.forall_mem_cons.mpr ⟨w_326, List.forall_mem_cons.mpr ⟨w_328, fun _ h => absurd h List.not_mem_nil⟩⟩⟩⟩⟩⟩⟩⟩⟩⟩⟩⟩⟩⟩⟩
theorem i_X12 : ∀ w ∈ u_ws RX12 TX12 22, w ∈ tb := by
  show ∀ w ∈ [u_lay RX12 TX12 0, u_lay RX12 TX12 1, u_lay RX12 TX12 2, u_lay RX12 TX12 3, u_lay RX12 TX12 4, u_lay RX12 TX12 5, u_lay RX12 TX12 6, u_lay RX12 TX12 7, u_lay RX12 TX12 8, u_lay RX12 TX12 9, u_lay RX12 TX12 10, u_lay RX12 TX12 11, u_lay RX12 TX12 12, u_lay RX12 TX12 13, u_lay RX12 TX12 14, u_lay RX12 TX12 15, u_lay RX12 TX12 16, u_lay RX12 TX12 17, u_lay RX12 TX12 18, u_lay RX12 TX12 19, u_lay RX12 TX12 20, u_lay RX12 TX12 21], w ∈ tb
  exact List.forall_mem_cons.mpr ⟨w_852, List.forall_mem_cons.mpr ⟨w_854, List.forall_mem_cons.mpr ⟨w_856, List.forall_mem_cons.mpr ⟨w_858, List.forall_mem_cons.mpr ⟨w_860, List.forall_mem_cons.mpr ⟨w_862, List.forall_mem_cons.mpr ⟨w_864, List.forall_mem_cons.mpr ⟨w_866, List.forall_mem_cons.mpr ⟨w_868, List.forall_mem_cons.mpr ⟨w_870, List.forall_mem_cons.mpr ⟨w_872, List.forall_mem_cons.mpr ⟨w_874, List.forall_mem_cons.mpr ⟨w_876, List.forall_mem_cons.mpr ⟨w_878, List.forall_mem_cons.mpr ⟨w_880, List.forall_mem_cons.mpr ⟨w_882, List.forall_mem_cons.mpr ⟨w_884, List.forall_mem_cons.mpr ⟨w_886, List.forall_mem_cons.mpr ⟨w_888, List.forall_mem_cons.mpr ⟨w_890, List.forall_mem_cons.mpr ⟨w_892, List.forall_mem_cons.mpr ⟨w_894, fun _ h => absurd h List.not_mem_nil⟩⟩⟩⟩⟩⟩⟩⟩⟩⟩⟩⟩⟩⟩⟩⟩⟩⟩⟩⟩⟩⟩
theorem f_X11_28 : FSite RX11 28 11 6 true true (.object "SmallestSpeed$RoadText") := ⟨RX11, TX11, 15, tyX11, rfl, i_X11, by decide, w_291, rfl, by decide +kernel, tyX11_ok, nmX11, fun _ => rfl⟩
theorem f_X11_113 : FSite RX11 113 7 1 false false .int := ⟨RX7, TX7, 3, tyX7, rfl, i_X7, by decide, w_171, rfl, by decide +kernel, tyX7_ok, nmX7, fun h => by cases h⟩
theorem f_X11_10 : FSite RX11 10 11 0 true true (.object "SmallestSpeed$Road") := ⟨RX11, TX11, 15, tyX11, rfl, i_X11, by decide, w_285, rfl, by decide +kernel, tyX11_ok, nmX11, fun _ => rfl⟩
theorem f_X11_65 : FSite RX11 65 6 2 false false .int := ⟨RX6, TX6, 18, tyX6, rfl, i_X6, by decide, w_84, rfl, by decide +kernel, tyX6_ok, nmX6, fun h => by cases h⟩
theorem f_X11_75 : FSite RX11 75 6 0 false false .int := ⟨RX6, TX6, 18, tyX6, rfl, i_X6, by decide, w_78, rfl, by decide +kernel, tyX6_ok, nmX6, fun h => by cases h⟩
theorem f_X11_72 : FSite RX11 72 6 1 false false .int := ⟨RX6, TX6, 18, tyX6, rfl, i_X6, by decide, w_81, rfl, by decide +kernel, tyX6_ok, nmX6, fun h => by cases h⟩
theorem f_X11_179 : FSite RX11 179 6 8 false false .int := ⟨RX6, TX6, 18, tyX6, rfl, i_X6, by decide, w_107, rfl, by decide +kernel, tyX6_ok, nmX6, fun h => by cases h⟩
theorem f_X11_197 : FSite RX11 197 6 10 false false .int := ⟨RX6, TX6, 18, tyX6, rfl, i_X6, by decide, w_112, rfl, by decide +kernel, tyX6_ok, nmX6, fun h => by cases h⟩
theorem f_X11_104 : FSite RX11 104 6 14 false false .int := ⟨RX6, TX6, 18, tyX6, rfl, i_X6, by decide, w_120, rfl, by decide +kernel, tyX6_ok, nmX6, fun h => by cases h⟩
theorem f_X11_233 : FSite RX11 233 11 10 false true .int := ⟨RX11, TX11, 15, tyX11, rfl, i_X11, by decide, w_295, rfl, by decide +kernel, tyX11_ok, nmX11, fun _ => rfl⟩
theorem f_X11_53 : FSite RX11 53 11 11 false true .int := ⟨RX11, TX11, 15, tyX11, rfl, i_X11, by decide, w_296, rfl, by decide +kernel, tyX11_ok, nmX11, fun _ => rfl⟩
theorem f_X11_243 : FSite RX11 243 11 12 false true .int := ⟨RX11, TX11, 15, tyX11, rfl, i_X11, by decide, w_297, rfl, by decide +kernel, tyX11_ok, nmX11, fun _ => rfl⟩
theorem f_X11_249 : FSite RX11 249 11 14 false true .int := ⟨RX11, TX11, 15, tyX11, rfl, i_X11, by decide, w_299, rfl, by decide +kernel, tyX11_ok, nmX11, fun _ => rfl⟩
theorem f_X11_246 : FSite RX11 246 11 13 false true .int := ⟨RX11, TX11, 15, tyX11, rfl, i_X11, by decide, w_298, rfl, by decide +kernel, tyX11_ok, nmX11, fun _ => rfl⟩
theorem f_X12_20 : FSite RX12 20 12 3 true true (.array .int) := ⟨RX12, TX12, 22, tyX12, rfl, i_X12, by decide, w_833, rfl, by decide +kernel, tyX12_ok, nmX12, fun _ => rfl⟩
theorem f_X12_7 : FSite RX12 7 12 0 true true (.array .int) := ⟨RX12, TX12, 22, tyX12, rfl, i_X12, by decide, w_830, rfl, by decide +kernel, tyX12_ok, nmX12, fun _ => rfl⟩
theorem f_X12_225 : FSite RX12 225 12 15 false true .int := ⟨RX12, TX12, 22, tyX12, rfl, i_X12, by decide, w_845, rfl, by decide +kernel, tyX12_ok, nmX12, fun _ => rfl⟩
theorem f_X12_202 : FSite RX12 202 12 4 false true .long := ⟨RX12, TX12, 22, tyX12, rfl, i_X12, by decide, w_834, rfl, by decide +kernel, tyX12_ok, nmX12, fun _ => rfl⟩
theorem f_X12_23 : FSite RX12 23 12 5 false true .long := ⟨RX12, TX12, 22, tyX12, rfl, i_X12, by decide, w_835, rfl, by decide +kernel, tyX12_ok, nmX12, fun _ => rfl⟩
theorem f_X12_242 : FSite RX12 242 12 18 false true .int := ⟨RX12, TX12, 22, tyX12, rfl, i_X12, by decide, w_848, rfl, by decide +kernel, tyX12_ok, nmX12, fun _ => rfl⟩
theorem f_X12_239 : FSite RX12 239 12 17 false true .int := ⟨RX12, TX12, 22, tyX12, rfl, i_X12, by decide, w_847, rfl, by decide +kernel, tyX12_ok, nmX12, fun _ => rfl⟩
theorem f_X12_48 : FSite RX12 48 12 14 true true (.array .int) := ⟨RX12, TX12, 22, tyX12, rfl, i_X12, by decide, w_844, rfl, by decide +kernel, tyX12_ok, nmX12, fun _ => rfl⟩
theorem f_X12_236 : FSite RX12 236 12 16 false true .int := ⟨RX12, TX12, 22, tyX12, rfl, i_X12, by decide, w_846, rfl, by decide +kernel, tyX12_ok, nmX12, fun _ => rfl⟩
theorem f_X12_39 : FSite RX12 39 12 11 true true (.array .int) := ⟨RX12, TX12, 22, tyX12, rfl, i_X12, by decide, w_841, rfl, by decide +kernel, tyX12_ok, nmX12, fun _ => rfl⟩
theorem f_X1_18 : FSite RX1 18 1 1 true true (.array .int) := ⟨RX1, TX1, 2, tyX1, rfl, i_X1, by decide, w_264, rfl, by decide +kernel, tyX1_ok, nmX1, fun _ => rfl⟩
theorem f_X4_21 : FSite RX4 21 4 1 true true (.object "SmallestSpeed$Walker") := ⟨RX4, TX4, 8, tyX4, rfl, i_X4, by decide, w_229, rfl, by decide +kernel, tyX4_ok, nmX4, fun _ => rfl⟩
theorem f_X4_27 : FSite RX4 27 4 2 true true (.object "SmallestSpeed$Walker") := ⟨RX4, TX4, 8, tyX4, rfl, i_X4, by decide, w_230, rfl, by decide +kernel, tyX4_ok, nmX4, fun _ => rfl⟩
theorem f_X4_33 : FSite RX4 33 4 3 true true (.object "SmallestSpeed$Walker") := ⟨RX4, TX4, 8, tyX4, rfl, i_X4, by decide, w_231, rfl, by decide +kernel, tyX4_ok, nmX4, fun _ => rfl⟩
theorem f_X4_39 : FSite RX4 39 4 4 true true (.object "SmallestSpeed$Walker") := ⟨RX4, TX4, 8, tyX4, rfl, i_X4, by decide, w_232, rfl, by decide +kernel, tyX4_ok, nmX4, fun _ => rfl⟩
theorem f_X4_45 : FSite RX4 45 4 5 true true (.object "SmallestSpeed$Walker") := ⟨RX4, TX4, 8, tyX4, rfl, i_X4, by decide, w_233, rfl, by decide +kernel, tyX4_ok, nmX4, fun _ => rfl⟩
theorem f_X4_12 : FSite RX4 12 4 0 true true (.object "SmallestSpeed$Walker") := ⟨RX4, TX4, 8, tyX4, rfl, i_X4, by decide, w_228, rfl, by decide +kernel, tyX4_ok, nmX4, fun _ => rfl⟩
theorem f_X4_55 : FSite RX4 55 6 2 false false .int := ⟨RX6, TX6, 18, tyX6, rfl, i_X6, by decide, w_85, rfl, by decide +kernel, tyX6_ok, nmX6, fun h => by cases h⟩
theorem f_X4_52 : FSite RX4 52 4 7 true true (.array .int) := ⟨RX4, TX4, 8, tyX4, rfl, i_X4, by decide, w_236, rfl, by decide +kernel, tyX4_ok, nmX4, fun _ => rfl⟩
theorem f_X4_48 : FSite RX4 48 4 6 true true (.array .int) := ⟨RX4, TX4, 8, tyX4, rfl, i_X4, by decide, w_234, rfl, by decide +kernel, tyX4_ok, nmX4, fun _ => rfl⟩
theorem f_X6_56 : FSite RX6 56 6 2 false true .int := ⟨RX6, TX6, 18, tyX6, rfl, i_X6, by decide, w_83, rfl, by decide +kernel, tyX6_ok, nmX6, fun _ => rfl⟩
theorem f_X6_15 : FSite RX6 15 6 3 true true (.array .int) := ⟨RX6, TX6, 18, tyX6, rfl, i_X6, by decide, w_88, rfl, by decide +kernel, tyX6_ok, nmX6, fun _ => rfl⟩
theorem f_X6_19 : FSite RX6 19 6 4 true true (.array .int) := ⟨RX6, TX6, 18, tyX6, rfl, i_X6, by decide, w_92, rfl, by decide +kernel, tyX6_ok, nmX6, fun _ => rfl⟩
theorem f_X6_22 : FSite RX6 22 6 5 true true (.array .int) := ⟨RX6, TX6, 18, tyX6, rfl, i_X6, by decide, w_95, rfl, by decide +kernel, tyX6_ok, nmX6, fun _ => rfl⟩
theorem f_X6_25 : FSite RX6 25 6 6 true true (.array .int) := ⟨RX6, TX6, 18, tyX6, rfl, i_X6, by decide, w_99, rfl, by decide +kernel, tyX6_ok, nmX6, fun _ => rfl⟩
theorem f_X6_28 : FSite RX6 28 6 7 true true (.array .int) := ⟨RX6, TX6, 18, tyX6, rfl, i_X6, by decide, w_102, rfl, by decide +kernel, tyX6_ok, nmX6, fun _ => rfl⟩
theorem f_X6_65 : FSite RX6 65 6 14 false true .int := ⟨RX6, TX6, 18, tyX6, rfl, i_X6, by decide, w_119, rfl, by decide +kernel, tyX6_ok, nmX6, fun _ => rfl⟩
theorem f_X6_62 : FSite RX6 62 6 10 false true .int := ⟨RX6, TX6, 18, tyX6, rfl, i_X6, by decide, w_111, rfl, by decide +kernel, tyX6_ok, nmX6, fun _ => rfl⟩
theorem f_X6_34 : FSite RX6 34 6 11 true true (.array .int) := ⟨RX6, TX6, 18, tyX6, rfl, i_X6, by decide, w_113, rfl, by decide +kernel, tyX6_ok, nmX6, fun _ => rfl⟩
theorem f_X6_37 : FSite RX6 37 6 12 true true (.array .int) := ⟨RX6, TX6, 18, tyX6, rfl, i_X6, by decide, w_115, rfl, by decide +kernel, tyX6_ok, nmX6, fun _ => rfl⟩
theorem f_X6_40 : FSite RX6 40 6 13 true true (.array .int) := ⟨RX6, TX6, 18, tyX6, rfl, i_X6, by decide, w_117, rfl, by decide +kernel, tyX6_ok, nmX6, fun _ => rfl⟩
theorem f_X6_59 : FSite RX6 59 6 8 false true .int := ⟨RX6, TX6, 18, tyX6, rfl, i_X6, by decide, w_105, rfl, by decide +kernel, tyX6_ok, nmX6, fun _ => rfl⟩
theorem f_X6_31 : FSite RX6 31 6 9 true true (.array .int) := ⟨RX6, TX6, 18, tyX6, rfl, i_X6, by decide, w_108, rfl, by decide +kernel, tyX6_ok, nmX6, fun _ => rfl⟩
theorem f_X6_9 : FSite RX6 9 6 0 false true .int := ⟨RX6, TX6, 18, tyX6, rfl, i_X6, by decide, w_77, rfl, by decide +kernel, tyX6_ok, nmX6, fun _ => rfl⟩
theorem f_X6_53 : FSite RX6 53 6 1 false true .int := ⟨RX6, TX6, 18, tyX6, rfl, i_X6, by decide, w_80, rfl, by decide +kernel, tyX6_ok, nmX6, fun _ => rfl⟩
theorem f_X6_46 : FSite RX6 46 6 16 true true (.array .boolean) := ⟨RX6, TX6, 18, tyX6, rfl, i_X6, by decide, w_122, rfl, by decide +kernel, tyX6_ok, nmX6, fun _ => rfl⟩
theorem f_X6_43 : FSite RX6 43 6 15 true true (.array .int) := ⟨RX6, TX6, 18, tyX6, rfl, i_X6, by decide, w_121, rfl, by decide +kernel, tyX6_ok, nmX6, fun _ => rfl⟩
theorem f_X6_50 : FSite RX6 50 6 17 true true (.array .int) := ⟨RX6, TX6, 18, tyX6, rfl, i_X6, by decide, w_123, rfl, by decide +kernel, tyX6_ok, nmX6, fun _ => rfl⟩
theorem f_X7_15 : FSite RX7 15 7 1 false true .int := ⟨RX7, TX7, 3, tyX7, rfl, i_X7, by decide, w_170, rfl, by decide +kernel, tyX7_ok, nmX7, fun _ => rfl⟩
theorem f_X7_9 : FSite RX7 9 7 0 true true (.array .int) := ⟨RX7, TX7, 3, tyX7, rfl, i_X7, by decide, w_169, rfl, by decide +kernel, tyX7_ok, nmX7, fun _ => rfl⟩
theorem f_X7_19 : FSite RX7 19 7 2 false true .int := ⟨RX7, TX7, 3, tyX7, rfl, i_X7, by decide, w_172, rfl, by decide +kernel, tyX7_ok, nmX7, fun _ => rfl⟩
theorem nh_J0 : (RJ0 ≠ "java/lang/invoke/MethodHandle") ∧ (RJ0 ≠ "java/lang/invoke/VarHandle") := ⟨by decide +kernel, by decide +kernel⟩
theorem pd_J0_coder_7d493 : (parseMethodDescriptor M_J0_coder_7d493.1.desc).map (fun d => d.parameters.length) = some 0 := by decide +kernel
theorem s_J0_length_8abf5_335 : SiteV M_J0_length_8abf5 M_J0_coder_7d493 335 0 0 0 := ⟨⟨w_444, w_56, ⟨nh_J0.1, nh_J0.2, pd_J0_coder_7d493⟩, ⟨Nat.le_of_ble_eq_true rfl, Nat.le_of_ble_eq_true rfl⟩, rfl, rfl⟩, w_441, w_442, w_443⟩
theorem nh_X10 : (RX10 ≠ "java/lang/invoke/MethodHandle") ∧ (RX10 ≠ "java/lang/invoke/VarHandle") := ⟨by decide +kernel, by decide +kernel⟩
theorem pd_X10_highIn : (parseMethodDescriptor M_X10_highIn.1.desc).map (fun d => d.parameters.length) = some 2 := by decide +kernel
theorem s_X0_highIn_7 : SiteSX M_X0_highIn M_X10_highIn 7 2 0 0 RX10 ⟨"SmallestSpeed$Player", "highIn", "(II)I"⟩ := ⟨⟨w_564, w_46, ⟨nh_X10.1, nh_X10.2, pd_X10_highIn⟩, ⟨Nat.le_of_ble_eq_true rfl, Nat.le_of_ble_eq_true rfl⟩, rfl, rfl⟩, by decide +kernel, w_543, w_544, w_227, w_206, w_537, by decide +kernel⟩
theorem nh_J9 : (RJ9 ≠ "java/lang/invoke/MethodHandle") ∧ (RJ9 ≠ "java/lang/invoke/VarHandle") := ⟨by decide +kernel, by decide +kernel⟩
theorem pd_J9_min_7cf53 : (parseMethodDescriptor M_J9_min_7cf53.1.desc).map (fun d => d.parameters.length) = some 2 := by decide +kernel
theorem s_X10_cellIn_9 : SiteS M_X10_cellIn M_J9_min_7cf53 9 2 0 0 := ⟨⟨w_529, w_60, ⟨nh_J9.1, nh_J9.2, pd_J9_min_7cf53⟩, ⟨Nat.le_of_ble_eq_true rfl, Nat.le_of_ble_eq_true rfl⟩, rfl, rfl⟩, w_535, w_528⟩
theorem ob_X10_3 : OSite RX10 3 := ⟨w_191, w_69, w_70⟩
theorem nh_X11 : (RX11 ≠ "java/lang/invoke/MethodHandle") ∧ (RX11 ≠ "java/lang/invoke/VarHandle") := ⟨by decide +kernel, by decide +kernel⟩
theorem pd_X11_within : (parseMethodDescriptor M_X11_within.1.desc).map (fun d => d.parameters.length) = some 3 := by decide +kernel
theorem s_X11_count_57 : SiteS M_X11_count M_X11_within 57 3 0 0 := ⟨⟨w_337, w_42, ⟨nh_X11.1, nh_X11.2, pd_X11_within⟩, ⟨Nat.le_of_ble_eq_true rfl, Nat.le_of_ble_eq_true rfl⟩, rfl, rfl⟩, w_335, w_336⟩
theorem pd_X11_refuseBad : (parseMethodDescriptor M_X11_refuseBad.1.desc).map (fun d => d.parameters.length) = some 1 := by decide +kernel
theorem s_X11_count_61 : SiteV M_X11_count M_X11_refuseBad 61 1 0 0 := ⟨⟨w_341, w_42, ⟨nh_X11.1, nh_X11.2, pd_X11_refuseBad⟩, ⟨Nat.le_of_ble_eq_true rfl, Nat.le_of_ble_eq_true rfl⟩, rfl, rfl⟩, w_338, w_340, w_0⟩
theorem pd_X11_countOf : (parseMethodDescriptor M_X11_countOf.1.desc).map (fun d => d.parameters.length) = some 1 := by decide +kernel
theorem s_X11_count_252 : SiteV M_X11_count M_X11_countOf 252 1 0 0 := ⟨⟨w_809, w_42, ⟨nh_X11.1, nh_X11.2, pd_X11_countOf⟩, ⟨Nat.le_of_ble_eq_true rfl, Nat.le_of_ble_eq_true rfl⟩, rfl, rfl⟩, w_806, w_808, w_5⟩
theorem s_X11_digest_252 : SiteV M_X11_digest M_X11_countOf 252 1 0 0 := ⟨⟨w_809, w_42, ⟨nh_X11.1, nh_X11.2, pd_X11_countOf⟩, ⟨Nat.le_of_ble_eq_true rfl, Nat.le_of_ble_eq_true rfl⟩, rfl, rfl⟩, w_806, w_808, w_5⟩
theorem nh_X6 : (RX6 ≠ "java/lang/invoke/MethodHandle") ∧ (RX6 ≠ "java/lang/invoke/VarHandle") := ⟨by decide +kernel, by decide +kernel⟩
theorem pd_X6_digestOn : (parseMethodDescriptor M_X6_digestOn.1.desc).map (fun d => d.parameters.length) = some 1 := by decide +kernel
theorem s_X11_digest_259 : SiteV M_X11_digest M_X6_digestOn 259 1 0 0 := ⟨⟨w_819, w_43, ⟨nh_X6.1, nh_X6.2, pd_X6_digestOn⟩, ⟨Nat.le_of_ble_eq_true rfl, Nat.le_of_ble_eq_true rfl⟩, rfl, rfl⟩, w_816, w_817, w_818⟩
theorem s_X11_isCell_57 : SiteS M_X11_isCell M_X11_within 57 3 0 0 := ⟨⟨w_337, w_42, ⟨nh_X11.1, nh_X11.2, pd_X11_within⟩, ⟨Nat.le_of_ble_eq_true rfl, Nat.le_of_ble_eq_true rfl⟩, rfl, rfl⟩, w_335, w_336⟩
theorem s_X11_isChild_57 : SiteS M_X11_isChild M_X11_within 57 3 0 0 := ⟨⟨w_337, w_42, ⟨nh_X11.1, nh_X11.2, pd_X11_within⟩, ⟨Nat.le_of_ble_eq_true rfl, Nat.le_of_ble_eq_true rfl⟩, rfl, rfl⟩, w_335, w_336⟩
theorem s_X11_isMinute_57 : SiteS M_X11_isMinute M_X11_within 57 3 0 0 := ⟨⟨w_337, w_42, ⟨nh_X11.1, nh_X11.2, pd_X11_within⟩, ⟨Nat.le_of_ble_eq_true rfl, Nat.le_of_ble_eq_true rfl⟩, rfl, rfl⟩, w_335, w_336⟩
theorem s_X11_isZeroOrOne_57 : SiteS M_X11_isZeroOrOne M_X11_within 57 3 0 0 := ⟨⟨w_337, w_42, ⟨nh_X11.1, nh_X11.2, pd_X11_within⟩, ⟨Nat.le_of_ble_eq_true rfl, Nat.le_of_ble_eq_true rfl⟩, rfl, rfl⟩, w_335, w_336⟩
theorem s_X11_road_57 : SiteS M_X11_road M_X11_within 57 3 0 0 := ⟨⟨w_337, w_42, ⟨nh_X11.1, nh_X11.2, pd_X11_within⟩, ⟨Nat.le_of_ble_eq_true rfl, Nat.le_of_ble_eq_true rfl⟩, rfl, rfl⟩, w_335, w_336⟩
theorem s_X11_road_61 : SiteV M_X11_road M_X11_refuseBad 61 1 0 0 := ⟨⟨w_341, w_42, ⟨nh_X11.1, nh_X11.2, pd_X11_refuseBad⟩, ⟨Nat.le_of_ble_eq_true rfl, Nat.le_of_ble_eq_true rfl⟩, rfl, rfl⟩, w_338, w_340, w_0⟩
theorem pd_X6_begin : (parseMethodDescriptor M_X6_begin.1.desc).map (fun d => d.parameters.length) = some 2 := by decide +kernel
theorem s_X11_road_68 : SiteV M_X11_road M_X6_begin 68 2 0 0 := ⟨⟨w_345, w_43, ⟨nh_X6.1, nh_X6.2, pd_X6_begin⟩, ⟨Nat.le_of_ble_eq_true rfl, Nat.le_of_ble_eq_true rfl⟩, rfl, rfl⟩, w_342, w_343, w_344⟩
theorem s_X11_rule_57 : SiteS M_X11_rule M_X11_within 57 3 0 0 := ⟨⟨w_337, w_42, ⟨nh_X11.1, nh_X11.2, pd_X11_within⟩, ⟨Nat.le_of_ble_eq_true rfl, Nat.le_of_ble_eq_true rfl⟩, rfl, rfl⟩, w_335, w_336⟩
theorem s_X11_rule_61 : SiteV M_X11_rule M_X11_refuseBad 61 1 0 0 := ⟨⟨w_341, w_42, ⟨nh_X11.1, nh_X11.2, pd_X11_refuseBad⟩, ⟨Nat.le_of_ble_eq_true rfl, Nat.le_of_ble_eq_true rfl⟩, rfl, rfl⟩, w_338, w_340, w_0⟩
theorem s_X11_sight_57 : SiteS M_X11_sight M_X11_within 57 3 0 0 := ⟨⟨w_337, w_42, ⟨nh_X11.1, nh_X11.2, pd_X11_within⟩, ⟨Nat.le_of_ble_eq_true rfl, Nat.le_of_ble_eq_true rfl⟩, rfl, rfl⟩, w_335, w_336⟩
theorem s_X11_sight_61 : SiteV M_X11_sight M_X11_refuseBad 61 1 0 0 := ⟨⟨w_341, w_42, ⟨nh_X11.1, nh_X11.2, pd_X11_refuseBad⟩, ⟨Nat.le_of_ble_eq_true rfl, Nat.le_of_ble_eq_true rfl⟩, rfl, rfl⟩, w_338, w_340, w_0⟩
theorem s_X11_speed_57 : SiteS M_X11_speed M_X11_within 57 3 0 0 := ⟨⟨w_337, w_42, ⟨nh_X11.1, nh_X11.2, pd_X11_within⟩, ⟨Nat.le_of_ble_eq_true rfl, Nat.le_of_ble_eq_true rfl⟩, rfl, rfl⟩, w_335, w_336⟩
theorem s_X11_speed_61 : SiteV M_X11_speed M_X11_refuseBad 61 1 0 0 := ⟨⟨w_341, w_42, ⟨nh_X11.1, nh_X11.2, pd_X11_refuseBad⟩, ⟨Nat.le_of_ble_eq_true rfl, Nat.le_of_ble_eq_true rfl⟩, rfl, rfl⟩, w_338, w_340, w_0⟩
theorem pd_X11_refuseFull : (parseMethodDescriptor M_X11_refuseFull.1.desc).map (fun d => d.parameters.length) = some 0 := by decide +kernel
theorem s_X11_speed_82 : SiteV M_X11_speed M_X11_refuseFull 82 0 0 0 := ⟨⟨w_364, w_42, ⟨nh_X11.1, nh_X11.2, pd_X11_refuseFull⟩, ⟨Nat.le_of_ble_eq_true rfl, Nat.le_of_ble_eq_true rfl⟩, rfl, rfl⟩, w_361, w_363, w_1⟩
theorem pd_X6_addSpeed : (parseMethodDescriptor M_X6_addSpeed.1.desc).map (fun d => d.parameters.length) = some 1 := by decide +kernel
theorem s_X11_speed_182 : SiteV M_X11_speed M_X6_addSpeed 182 1 0 0 := ⟨⟨w_653, w_43, ⟨nh_X6.1, nh_X6.2, pd_X6_addSpeed⟩, ⟨Nat.le_of_ble_eq_true rfl, Nat.le_of_ble_eq_true rfl⟩, rfl, rfl⟩, w_650, w_651, w_652⟩
theorem s_X11_status_61 : SiteV M_X11_status M_X11_refuseBad 61 1 0 0 := ⟨⟨w_341, w_42, ⟨nh_X11.1, nh_X11.2, pd_X11_refuseBad⟩, ⟨Nat.le_of_ble_eq_true rfl, Nat.le_of_ble_eq_true rfl⟩, rfl, rfl⟩, w_338, w_340, w_0⟩
theorem s_X11_type_57 : SiteS M_X11_type M_X11_within 57 3 0 0 := ⟨⟨w_337, w_42, ⟨nh_X11.1, nh_X11.2, pd_X11_within⟩, ⟨Nat.le_of_ble_eq_true rfl, Nat.le_of_ble_eq_true rfl⟩, rfl, rfl⟩, w_335, w_336⟩
theorem s_X11_type_61 : SiteV M_X11_type M_X11_refuseBad 61 1 0 0 := ⟨⟨w_341, w_42, ⟨nh_X11.1, nh_X11.2, pd_X11_refuseBad⟩, ⟨Nat.le_of_ble_eq_true rfl, Nat.le_of_ble_eq_true rfl⟩, rfl, rfl⟩, w_338, w_340, w_0⟩
theorem s_X11_type_82 : SiteV M_X11_type M_X11_refuseFull 82 0 0 0 := ⟨⟨w_364, w_42, ⟨nh_X11.1, nh_X11.2, pd_X11_refuseFull⟩, ⟨Nat.le_of_ble_eq_true rfl, Nat.le_of_ble_eq_true rfl⟩, rfl, rfl⟩, w_361, w_363, w_1⟩
theorem nh_X7 : (RX7 ≠ "java/lang/invoke/MethodHandle") ∧ (RX7 ≠ "java/lang/invoke/VarHandle") := ⟨by decide +kernel, by decide +kernel⟩
theorem pd_X7_append : (parseMethodDescriptor M_X7_append.1.desc).map (fun d => d.parameters.length) = some 1 := by decide +kernel
theorem s_X11_type_116 : SiteV M_X11_type M_X7_append 116 1 0 0 := ⟨⟨w_407, w_44, ⟨nh_X7.1, nh_X7.2, pd_X7_append⟩, ⟨Nat.le_of_ble_eq_true rfl, Nat.le_of_ble_eq_true rfl⟩, rfl, rfl⟩, w_404, w_405, w_406⟩
theorem pd_X11_refuseNo : (parseMethodDescriptor M_X11_refuseNo.1.desc).map (fun d => d.parameters.length) = some 0 := by decide +kernel
theorem s_X11_undo_107 : SiteV M_X11_undo M_X11_refuseNo 107 0 0 0 := ⟨⟨w_395, w_42, ⟨nh_X11.1, nh_X11.2, pd_X11_refuseNo⟩, ⟨Nat.le_of_ble_eq_true rfl, Nat.le_of_ble_eq_true rfl⟩, rfl, rfl⟩, w_392, w_394, w_3⟩
theorem pd_X6_undoLast : (parseMethodDescriptor M_X6_undoLast.1.desc).map (fun d => d.parameters.length) = some 0 := by decide +kernel
theorem s_X11_undo_110 : SiteV M_X11_undo M_X6_undoLast 110 0 0 0 := ⟨⟨w_399, w_43, ⟨nh_X6.1, nh_X6.2, pd_X6_undoLast⟩, ⟨Nat.le_of_ble_eq_true rfl, Nat.le_of_ble_eq_true rfl⟩, rfl, rfl⟩, w_396, w_397, w_398⟩
theorem nh_X12 : (RX12 ≠ "java/lang/invoke/MethodHandle") ∧ (RX12 ≠ "java/lang/invoke/VarHandle") := ⟨by decide +kernel, by decide +kernel⟩
theorem pd_X12_children : (parseMethodDescriptor M_X12_children.1.desc).map (fun d => d.parameters.length) = some 0 := by decide +kernel
theorem s_X12_all_61 : SiteV M_X12_all M_X12_children 61 0 0 0 := ⟨⟨w_913, w_54, ⟨nh_X12.1, nh_X12.2, pd_X12_children⟩, ⟨Nat.le_of_ble_eq_true rfl, Nat.le_of_ble_eq_true rfl⟩, rfl, rfl⟩, w_910, w_912, w_7⟩
theorem f_X12_27 : FSite RX12 27 12 6 true true (.array .int) := ⟨RX12, TX12, 22, tyX12, rfl, i_X12, by decide, w_836, rfl, by decide +kernel, tyX12_ok, nmX12, fun _ => rfl⟩
theorem f_X12_30 : FSite RX12 30 12 7 true true (.array .int) := ⟨RX12, TX12, 22, tyX12, rfl, i_X12, by decide, w_837, rfl, by decide +kernel, tyX12_ok, nmX12, fun _ => rfl⟩
theorem pd_X12_get : (parseMethodDescriptor M_X12_get.1.desc).map (fun d => d.parameters.length) = some 2 := by decide +kernel
theorem s_X12_cellOf_98 : SiteV M_X12_cellOf M_X12_get 98 2 0 0 := ⟨⟨w_955, w_54, ⟨nh_X12.1, nh_X12.2, pd_X12_get⟩, ⟨Nat.le_of_ble_eq_true rfl, Nat.le_of_ble_eq_true rfl⟩, rfl, rfl⟩, w_952, w_954, w_11⟩
theorem pd_X12_in : (parseMethodDescriptor M_X12_in.1.desc).map (fun d => d.parameters.length) = some 3 := by decide +kernel
theorem s_X12_count_65 : SiteS M_X12_count M_X12_in 65 3 0 0 := ⟨⟨w_904, w_54, ⟨nh_X12.1, nh_X12.2, pd_X12_in⟩, ⟨Nat.le_of_ble_eq_true rfl, Nat.le_of_ble_eq_true rfl⟩, rfl, rfl⟩, w_902, w_903⟩
theorem pd_X12_counted : (parseMethodDescriptor M_X12_counted.1.desc).map (fun d => d.parameters.length) = some 1 := by decide +kernel
theorem s_X12_count_273 : SiteV M_X12_count M_X12_counted 273 1 0 0 := ⟨⟨w_1220, w_54, ⟨nh_X12.1, nh_X12.2, pd_X12_counted⟩, ⟨Nat.le_of_ble_eq_true rfl, Nat.le_of_ble_eq_true rfl⟩, rfl, rfl⟩, w_1217, w_1219, w_39⟩
theorem pd_X12_bad : (parseMethodDescriptor M_X12_bad.1.desc).map (fun d => d.parameters.length) = some 1 := by decide +kernel
theorem s_X12_count_75 : SiteV M_X12_count M_X12_bad 75 1 0 0 := ⟨⟨w_909, w_54, ⟨nh_X12.1, nh_X12.2, pd_X12_bad⟩, ⟨Nat.le_of_ble_eq_true rfl, Nat.le_of_ble_eq_true rfl⟩, rfl, rfl⟩, w_906, w_908, w_6⟩
theorem s_X12_countsOf_98 : SiteV M_X12_countsOf M_X12_get 98 2 0 0 := ⟨⟨w_955, w_54, ⟨nh_X12.1, nh_X12.2, pd_X12_get⟩, ⟨Nat.le_of_ble_eq_true rfl, Nat.le_of_ble_eq_true rfl⟩, rfl, rfl⟩, w_952, w_954, w_11⟩
theorem pd_X12_least : (parseMethodDescriptor M_X12_least.1.desc).map (fun d => d.parameters.length) = some 2 := by decide +kernel
theorem s_X12_countsOf_119 : SiteS M_X12_countsOf M_X12_least 119 2 0 0 := ⟨⟨w_1002, w_54, ⟨nh_X12.1, nh_X12.2, pd_X12_least⟩, ⟨Nat.le_of_ble_eq_true rfl, Nat.le_of_ble_eq_true rfl⟩, rfl, rfl⟩, w_1000, w_1001⟩
theorem pd_X12_most : (parseMethodDescriptor M_X12_most.1.desc).map (fun d => d.parameters.length) = some 2 := by decide +kernel
theorem s_X12_countsOf_122 : SiteS M_X12_countsOf M_X12_most 122 2 0 0 := ⟨⟨w_1005, w_54, ⟨nh_X12.1, nh_X12.2, pd_X12_most⟩, ⟨Nat.le_of_ble_eq_true rfl, Nat.le_of_ble_eq_true rfl⟩, rfl, rfl⟩, w_1003, w_1004⟩
theorem s_X12_digest_273 : SiteV M_X12_digest M_X12_counted 273 1 0 0 := ⟨⟨w_1220, w_54, ⟨nh_X12.1, nh_X12.2, pd_X12_counted⟩, ⟨Nat.le_of_ble_eq_true rfl, Nat.le_of_ble_eq_true rfl⟩, rfl, rfl⟩, w_1217, w_1219, w_39⟩
theorem s_X12_digest_61 : SiteV M_X12_digest M_X12_children 61 0 0 0 := ⟨⟨w_913, w_54, ⟨nh_X12.1, nh_X12.2, pd_X12_children⟩, ⟨Nat.le_of_ble_eq_true rfl, Nat.le_of_ble_eq_true rfl⟩, rfl, rfl⟩, w_910, w_912, w_7⟩
theorem pd_X12_sums : (parseMethodDescriptor M_X12_sums.1.desc).map (fun d => d.parameters.length) = some 3 := by decide +kernel
theorem s_X12_digest_280 : SiteV M_X12_digest M_X12_sums 280 3 0 0 := ⟨⟨w_1230, w_54, ⟨nh_X12.1, nh_X12.2, pd_X12_sums⟩, ⟨Nat.le_of_ble_eq_true rfl, Nat.le_of_ble_eq_true rfl⟩, rfl, rfl⟩, w_1227, w_1229, w_40⟩
theorem f_X12_16 : FSite RX12 16 12 2 true true (.array .boolean) := ⟨RX12, TX12, 22, tyX12, rfl, i_X12, by decide, w_832, rfl, by decide +kernel, tyX12_ok, nmX12, fun _ => rfl⟩
theorem f_X12_13 : FSite RX12 13 12 1 true true (.array .int) := ⟨RX12, TX12, 22, tyX12, rfl, i_X12, by decide, w_831, rfl, by decide +kernel, tyX12_ok, nmX12, fun _ => rfl⟩
theorem s_X12_from_65 : SiteS M_X12_from M_X12_in 65 3 0 0 := ⟨⟨w_904, w_54, ⟨nh_X12.1, nh_X12.2, pd_X12_in⟩, ⟨Nat.le_of_ble_eq_true rfl, Nat.le_of_ble_eq_true rfl⟩, rfl, rfl⟩, w_902, w_903⟩
theorem s_X12_from_75 : SiteV M_X12_from M_X12_bad 75 1 0 0 := ⟨⟨w_909, w_54, ⟨nh_X12.1, nh_X12.2, pd_X12_bad⟩, ⟨Nat.le_of_ble_eq_true rfl, Nat.le_of_ble_eq_true rfl⟩, rfl, rfl⟩, w_906, w_908, w_6⟩
theorem pd_X12_no : (parseMethodDescriptor M_X12_no.1.desc).map (fun d => d.parameters.length) = some 0 := by decide +kernel
theorem s_X12_from_112 : SiteV M_X12_from M_X12_no 112 0 0 0 := ⟨⟨w_971, w_54, ⟨nh_X12.1, nh_X12.2, pd_X12_no⟩, ⟨Nat.le_of_ble_eq_true rfl, Nat.le_of_ble_eq_true rfl⟩, rfl, rfl⟩, w_968, w_970, w_13⟩
theorem s_X12_image_65 : SiteS M_X12_image M_X12_in 65 3 0 0 := ⟨⟨w_904, w_54, ⟨nh_X12.1, nh_X12.2, pd_X12_in⟩, ⟨Nat.le_of_ble_eq_true rfl, Nat.le_of_ble_eq_true rfl⟩, rfl, rfl⟩, w_902, w_903⟩
theorem s_X12_image_75 : SiteV M_X12_image M_X12_bad 75 1 0 0 := ⟨⟨w_909, w_54, ⟨nh_X12.1, nh_X12.2, pd_X12_bad⟩, ⟨Nat.le_of_ble_eq_true rfl, Nat.le_of_ble_eq_true rfl⟩, rfl, rfl⟩, w_906, w_908, w_6⟩
theorem f_X12_33 : FSite RX12 33 12 9 true true (.array .boolean) := ⟨RX12, TX12, 22, tyX12, rfl, i_X12, by decide, w_839, rfl, by decide +kernel, tyX12_ok, nmX12, fun _ => rfl⟩
theorem f_X12_36 : FSite RX12 36 12 10 true true (.array .boolean) := ⟨RX12, TX12, 22, tyX12, rfl, i_X12, by decide, w_840, rfl, by decide +kernel, tyX12_ok, nmX12, fun _ => rfl⟩
theorem f_X12_42 : FSite RX12 42 12 12 true true (.array .boolean) := ⟨RX12, TX12, 22, tyX12, rfl, i_X12, by decide, w_842, rfl, by decide +kernel, tyX12_ok, nmX12, fun _ => rfl⟩
theorem f_X12_45 : FSite RX12 45 12 13 true true (.array .int) := ⟨RX12, TX12, 22, tyX12, rfl, i_X12, by decide, w_843, rfl, by decide +kernel, tyX12_ok, nmX12, fun _ => rfl⟩
theorem f_X12_51 : FSite RX12 51 12 20 true true (.array .int) := ⟨RX12, TX12, 22, tyX12, rfl, i_X12, by decide, w_850, rfl, by decide +kernel, tyX12_ok, nmX12, fun _ => rfl⟩
theorem f_X12_54 : FSite RX12 54 12 21 true true (.array .int) := ⟨RX12, TX12, 22, tyX12, rfl, i_X12, by decide, w_851, rfl, by decide +kernel, tyX12_ok, nmX12, fun _ => rfl⟩
theorem ob_X12_1 : OSite RX12 1 := ⟨w_826, w_69, w_70⟩
theorem pd_X12_begin : (parseMethodDescriptor M_X12_begin.1.desc).map (fun d => d.parameters.length) = some 3 := by decide +kernel
theorem s_X12_init_57 : SiteS M_X12_init M_X12_begin 57 3 0 0 := ⟨⟨w_829, w_54, ⟨nh_X12.1, nh_X12.2, pd_X12_begin⟩, ⟨Nat.le_of_ble_eq_true rfl, Nat.le_of_ble_eq_true rfl⟩, rfl, rfl⟩, w_827, w_828⟩
theorem s_X12_isCell_65 : SiteS M_X12_isCell M_X12_in 65 3 0 0 := ⟨⟨w_904, w_54, ⟨nh_X12.1, nh_X12.2, pd_X12_in⟩, ⟨Nat.le_of_ble_eq_true rfl, Nat.le_of_ble_eq_true rfl⟩, rfl, rfl⟩, w_902, w_903⟩
theorem s_X12_isChild_61 : SiteV M_X12_isChild M_X12_children 61 0 0 0 := ⟨⟨w_913, w_54, ⟨nh_X12.1, nh_X12.2, pd_X12_children⟩, ⟨Nat.le_of_ble_eq_true rfl, Nat.le_of_ble_eq_true rfl⟩, rfl, rfl⟩, w_910, w_912, w_7⟩
theorem s_X12_isChild_65 : SiteS M_X12_isChild M_X12_in 65 3 0 0 := ⟨⟨w_904, w_54, ⟨nh_X12.1, nh_X12.2, pd_X12_in⟩, ⟨Nat.le_of_ble_eq_true rfl, Nat.le_of_ble_eq_true rfl⟩, rfl, rfl⟩, w_902, w_903⟩
theorem s_X12_isFigure_65 : SiteS M_X12_isFigure M_X12_in 65 3 0 0 := ⟨⟨w_904, w_54, ⟨nh_X12.1, nh_X12.2, pd_X12_in⟩, ⟨Nat.le_of_ble_eq_true rfl, Nat.le_of_ble_eq_true rfl⟩, rfl, rfl⟩, w_902, w_903⟩
theorem s_X12_isMinute_65 : SiteS M_X12_isMinute M_X12_in 65 3 0 0 := ⟨⟨w_904, w_54, ⟨nh_X12.1, nh_X12.2, pd_X12_in⟩, ⟨Nat.le_of_ble_eq_true rfl, Nat.le_of_ble_eq_true rfl⟩, rfl, rfl⟩, w_902, w_903⟩
theorem f_X12_115 : FSite RX12 115 12 8 false true .int := ⟨RX12, TX12, 22, tyX12, rfl, i_X12, by decide, w_838, rfl, by decide +kernel, tyX12_ok, nmX12, fun _ => rfl⟩
theorem s_X12_isOut_98 : SiteV M_X12_isOut M_X12_get 98 2 0 0 := ⟨⟨w_955, w_54, ⟨nh_X12.1, nh_X12.2, pd_X12_get⟩, ⟨Nat.le_of_ble_eq_true rfl, Nat.le_of_ble_eq_true rfl⟩, rfl, rfl⟩, w_952, w_954, w_11⟩
theorem s_X12_isSmall_65 : SiteS M_X12_isSmall M_X12_in 65 3 0 0 := ⟨⟨w_904, w_54, ⟨nh_X12.1, nh_X12.2, pd_X12_in⟩, ⟨Nat.le_of_ble_eq_true rfl, Nat.le_of_ble_eq_true rfl⟩, rfl, rfl⟩, w_902, w_903⟩
theorem s_X12_keep_98 : SiteV M_X12_keep M_X12_get 98 2 0 0 := ⟨⟨w_955, w_54, ⟨nh_X12.1, nh_X12.2, pd_X12_get⟩, ⟨Nat.le_of_ble_eq_true rfl, Nat.le_of_ble_eq_true rfl⟩, rfl, rfl⟩, w_952, w_954, w_11⟩
theorem s_X12_layHand_61 : SiteV M_X12_layHand M_X12_children 61 0 0 0 := ⟨⟨w_913, w_54, ⟨nh_X12.1, nh_X12.2, pd_X12_children⟩, ⟨Nat.le_of_ble_eq_true rfl, Nat.le_of_ble_eq_true rfl⟩, rfl, rfl⟩, w_910, w_912, w_7⟩
theorem s_X12_layHand_98 : SiteV M_X12_layHand M_X12_get 98 2 0 0 := ⟨⟨w_955, w_54, ⟨nh_X12.1, nh_X12.2, pd_X12_get⟩, ⟨Nat.le_of_ble_eq_true rfl, Nat.le_of_ble_eq_true rfl⟩, rfl, rfl⟩, w_952, w_954, w_11⟩
theorem s_X12_part_75 : SiteV M_X12_part M_X12_bad 75 1 0 0 := ⟨⟨w_909, w_54, ⟨nh_X12.1, nh_X12.2, pd_X12_bad⟩, ⟨Nat.le_of_ble_eq_true rfl, Nat.le_of_ble_eq_true rfl⟩, rfl, rfl⟩, w_906, w_908, w_6⟩
theorem s_X12_road_65 : SiteS M_X12_road M_X12_in 65 3 0 0 := ⟨⟨w_904, w_54, ⟨nh_X12.1, nh_X12.2, pd_X12_in⟩, ⟨Nat.le_of_ble_eq_true rfl, Nat.le_of_ble_eq_true rfl⟩, rfl, rfl⟩, w_902, w_903⟩
theorem s_X12_road_75 : SiteV M_X12_road M_X12_bad 75 1 0 0 := ⟨⟨w_909, w_54, ⟨nh_X12.1, nh_X12.2, pd_X12_bad⟩, ⟨Nat.le_of_ble_eq_true rfl, Nat.le_of_ble_eq_true rfl⟩, rfl, rfl⟩, w_906, w_908, w_6⟩
theorem s_X12_road_61 : SiteV M_X12_road M_X12_children 61 0 0 0 := ⟨⟨w_913, w_54, ⟨nh_X12.1, nh_X12.2, pd_X12_children⟩, ⟨Nat.le_of_ble_eq_true rfl, Nat.le_of_ble_eq_true rfl⟩, rfl, rfl⟩, w_910, w_912, w_7⟩
theorem s_X12_road_57 : SiteS M_X12_road M_X12_begin 57 3 0 0 := ⟨⟨w_829, w_54, ⟨nh_X12.1, nh_X12.2, pd_X12_begin⟩, ⟨Nat.le_of_ble_eq_true rfl, Nat.le_of_ble_eq_true rfl⟩, rfl, rfl⟩, w_827, w_828⟩
theorem s_X12_rule_65 : SiteS M_X12_rule M_X12_in 65 3 0 0 := ⟨⟨w_904, w_54, ⟨nh_X12.1, nh_X12.2, pd_X12_in⟩, ⟨Nat.le_of_ble_eq_true rfl, Nat.le_of_ble_eq_true rfl⟩, rfl, rfl⟩, w_902, w_903⟩
theorem s_X12_rule_75 : SiteV M_X12_rule M_X12_bad 75 1 0 0 := ⟨⟨w_909, w_54, ⟨nh_X12.1, nh_X12.2, pd_X12_bad⟩, ⟨Nat.le_of_ble_eq_true rfl, Nat.le_of_ble_eq_true rfl⟩, rfl, rfl⟩, w_906, w_908, w_6⟩
theorem s_X12_sight_65 : SiteS M_X12_sight M_X12_in 65 3 0 0 := ⟨⟨w_904, w_54, ⟨nh_X12.1, nh_X12.2, pd_X12_in⟩, ⟨Nat.le_of_ble_eq_true rfl, Nat.le_of_ble_eq_true rfl⟩, rfl, rfl⟩, w_902, w_903⟩
theorem s_X12_sight_75 : SiteV M_X12_sight M_X12_bad 75 1 0 0 := ⟨⟨w_909, w_54, ⟨nh_X12.1, nh_X12.2, pd_X12_bad⟩, ⟨Nat.le_of_ble_eq_true rfl, Nat.le_of_ble_eq_true rfl⟩, rfl, rfl⟩, w_906, w_908, w_6⟩
theorem s_X12_speed_65 : SiteS M_X12_speed M_X12_in 65 3 0 0 := ⟨⟨w_904, w_54, ⟨nh_X12.1, nh_X12.2, pd_X12_in⟩, ⟨Nat.le_of_ble_eq_true rfl, Nat.le_of_ble_eq_true rfl⟩, rfl, rfl⟩, w_902, w_903⟩
theorem s_X12_speed_75 : SiteV M_X12_speed M_X12_bad 75 1 0 0 := ⟨⟨w_909, w_54, ⟨nh_X12.1, nh_X12.2, pd_X12_bad⟩, ⟨Nat.le_of_ble_eq_true rfl, Nat.le_of_ble_eq_true rfl⟩, rfl, rfl⟩, w_906, w_908, w_6⟩
theorem pd_X12_full : (parseMethodDescriptor M_X12_full.1.desc).map (fun d => d.parameters.length) = some 0 := by decide +kernel
theorem s_X12_speed_91 : SiteV M_X12_speed M_X12_full 91 0 0 0 := ⟨⟨w_936, w_54, ⟨nh_X12.1, nh_X12.2, pd_X12_full⟩, ⟨Nat.le_of_ble_eq_true rfl, Nat.le_of_ble_eq_true rfl⟩, rfl, rfl⟩, w_933, w_935, w_8⟩
theorem s_X12_status_65 : SiteS M_X12_status M_X12_in 65 3 0 0 := ⟨⟨w_904, w_54, ⟨nh_X12.1, nh_X12.2, pd_X12_in⟩, ⟨Nat.le_of_ble_eq_true rfl, Nat.le_of_ble_eq_true rfl⟩, rfl, rfl⟩, w_902, w_903⟩
theorem s_X12_status_75 : SiteV M_X12_status M_X12_bad 75 1 0 0 := ⟨⟨w_909, w_54, ⟨nh_X12.1, nh_X12.2, pd_X12_bad⟩, ⟨Nat.le_of_ble_eq_true rfl, Nat.le_of_ble_eq_true rfl⟩, rfl, rfl⟩, w_906, w_908, w_6⟩
theorem s_X12_type_65 : SiteS M_X12_type M_X12_in 65 3 0 0 := ⟨⟨w_904, w_54, ⟨nh_X12.1, nh_X12.2, pd_X12_in⟩, ⟨Nat.le_of_ble_eq_true rfl, Nat.le_of_ble_eq_true rfl⟩, rfl, rfl⟩, w_902, w_903⟩
theorem s_X12_type_75 : SiteV M_X12_type M_X12_bad 75 1 0 0 := ⟨⟨w_909, w_54, ⟨nh_X12.1, nh_X12.2, pd_X12_bad⟩, ⟨Nat.le_of_ble_eq_true rfl, Nat.le_of_ble_eq_true rfl⟩, rfl, rfl⟩, w_906, w_908, w_6⟩
theorem s_X12_type_91 : SiteV M_X12_type M_X12_full 91 0 0 0 := ⟨⟨w_936, w_54, ⟨nh_X12.1, nh_X12.2, pd_X12_full⟩, ⟨Nat.le_of_ble_eq_true rfl, Nat.le_of_ble_eq_true rfl⟩, rfl, rfl⟩, w_933, w_935, w_8⟩
theorem s_X12_undo_112 : SiteV M_X12_undo M_X12_no 112 0 0 0 := ⟨⟨w_971, w_54, ⟨nh_X12.1, nh_X12.2, pd_X12_no⟩, ⟨Nat.le_of_ble_eq_true rfl, Nat.le_of_ble_eq_true rfl⟩, rfl, rfl⟩, w_968, w_970, w_13⟩
theorem nh_X1 : (RX1 ≠ "java/lang/invoke/MethodHandle") ∧ (RX1 ≠ "java/lang/invoke/VarHandle") := ⟨by decide +kernel, by decide +kernel⟩
theorem pd_X1_getsAgainst : (parseMethodDescriptor M_X1_getsAgainst.1.desc).map (fun d => d.parameters.length) = some 2 := by decide +kernel
theorem s_X1_isBestAgainst_77 : SiteV M_X1_isBestAgainst M_X1_getsAgainst 77 2 0 0 := ⟨⟨w_708, w_52, ⟨nh_X1.1, nh_X1.2, pd_X1_getsAgainst⟩, ⟨Nat.le_of_ble_eq_true rfl, Nat.le_of_ble_eq_true rfl⟩, rfl, rfl⟩, w_705, w_706, w_707⟩
theorem s_X2_highIn_9 : SiteSU M_X2_highIn M_X10_highIn 9 2 0 0 := ⟨⟨w_564, w_46, ⟨nh_X10.1, nh_X10.2, pd_X10_highIn⟩, ⟨Nat.le_of_ble_eq_true rfl, Nat.le_of_ble_eq_true rfl⟩, rfl, rfl⟩, by decide +kernel, w_549, w_539, w_220, w_537⟩
theorem s_X2_highIn_13 : SiteS M_X2_highIn M_J9_min_7cf53 13 2 0 0 := ⟨⟨w_529, w_60, ⟨nh_J9.1, nh_J9.2, pd_J9_min_7cf53⟩, ⟨Nat.le_of_ble_eq_true rfl, Nat.le_of_ble_eq_true rfl⟩, rfl, rfl⟩, w_550, w_528⟩
theorem s_X3_highIn_9 : SiteSU M_X3_highIn M_X10_highIn 9 2 0 0 := ⟨⟨w_564, w_46, ⟨nh_X10.1, nh_X10.2, pd_X10_highIn⟩, ⟨Nat.le_of_ble_eq_true rfl, Nat.le_of_ble_eq_true rfl⟩, rfl, rfl⟩, by decide +kernel, w_554, w_539, w_199, w_537⟩
theorem s_X3_highIn_13 : SiteS M_X3_highIn M_J9_min_7cf53 13 2 0 0 := ⟨⟨w_529, w_60, ⟨nh_J9.1, nh_J9.2, pd_J9_min_7cf53⟩, ⟨Nat.le_of_ble_eq_true rfl, Nat.le_of_ble_eq_true rfl⟩, rfl, rfl⟩, w_555, w_528⟩
theorem f_X4_120 : FSite RX4 120 6 0 false false .int := ⟨RX6, TX6, 18, tyX6, rfl, i_X6, by decide, w_79, rfl, by decide +kernel, tyX6_ok, nmX6, fun h => by cases h⟩
theorem pd_J9_abs_0f7a4 : (parseMethodDescriptor M_J9_abs_0f7a4.1.desc).map (fun d => d.parameters.length) = some 1 := by decide +kernel
theorem s_X4_isSeen_112 : SiteS M_X4_isSeen M_J9_abs_0f7a4 112 1 0 0 := ⟨⟨w_590, w_60, ⟨nh_J9.1, nh_J9.2, pd_J9_abs_0f7a4⟩, ⟨Nat.le_of_ble_eq_true rfl, Nat.le_of_ble_eq_true rfl⟩, rfl, rfl⟩, w_588, w_589⟩
theorem s_X5_cellIn_9 : SiteS M_X5_cellIn M_J9_min_7cf53 9 2 0 0 := ⟨⟨w_529, w_60, ⟨nh_J9.1, nh_J9.2, pd_J9_min_7cf53⟩, ⟨Nat.le_of_ble_eq_true rfl, Nat.le_of_ble_eq_true rfl⟩, rfl, rfl⟩, w_527, w_528⟩
theorem cp_X6_68 : CPSite RX6 68 := ⟨w_381, w_383, w_382, w_55⟩
theorem ob_X6_3 : OSite RX6 3 := ⟨w_76, w_69, w_70⟩
theorem ob_X7_3 : OSite RX7 3 := ⟨w_168, w_69, w_70⟩
theorem pd_X7_isAtEnd : (parseMethodDescriptor M_X7_isAtEnd.1.desc).map (fun d => d.parameters.length) = some 0 := by decide +kernel
theorem s_X7_readNumber_22 : SiteV M_X7_readNumber M_X7_isAtEnd 22 0 0 0 := ⟨⟨w_423, w_44, ⟨nh_X7.1, nh_X7.2, pd_X7_isAtEnd⟩, ⟨Nat.le_of_ble_eq_true rfl, Nat.le_of_ble_eq_true rfl⟩, rfl, rfl⟩, w_420, w_421, w_422⟩
theorem pd_X7_endOfRun : (parseMethodDescriptor M_X7_endOfRun.1.desc).map (fun d => d.parameters.length) = some 2 := by decide +kernel
theorem s_X7_readNumber_58 : SiteV M_X7_readNumber M_X7_endOfRun 58 2 0 0 := ⟨⟨w_436, w_44, ⟨nh_X7.1, nh_X7.2, pd_X7_endOfRun⟩, ⟨Nat.le_of_ble_eq_true rfl, Nat.le_of_ble_eq_true rfl⟩, rfl, rfl⟩, w_433, w_434, w_435⟩
theorem s_X7_readSemicolon_22 : SiteV M_X7_readSemicolon M_X7_isAtEnd 22 0 0 0 := ⟨⟨w_423, w_44, ⟨nh_X7.1, nh_X7.2, pd_X7_isAtEnd⟩, ⟨Nat.le_of_ble_eq_true rfl, Nat.le_of_ble_eq_true rfl⟩, rfl, rfl⟩, w_420, w_421, w_422⟩
theorem pd_X6_everyChild : (parseMethodDescriptor M_X6_everyChild.1.desc).map (fun d => d.parameters.length) = some 0 := by decide +kernel
theorem s_X8_inAllSets_45 : SiteV M_X8_inAllSets M_X6_everyChild 45 0 0 0 := ⟨⟨w_575, w_43, ⟨nh_X6.1, nh_X6.2, pd_X6_everyChild⟩, ⟨Nat.le_of_ble_eq_true rfl, Nat.le_of_ble_eq_true rfl⟩, rfl, rfl⟩, w_729, w_573, w_574⟩
theorem pd_J0_checkIndex_df160 : (parseMethodDescriptor M_J0_checkIndex_df160.1.desc).map (fun d => d.parameters.length) = some 2 := by decide +kernel
theorem s_J1_charAt_3b067_9 : SiteS M_J1_charAt_3b067 M_J0_checkIndex_df160 9 2 0 0 := ⟨⟨w_460, w_56, ⟨nh_J0.1, nh_J0.2, pd_J0_checkIndex_df160⟩, ⟨Nat.le_of_ble_eq_true rfl, Nat.le_of_ble_eq_true rfl⟩, rfl, rfl⟩, w_458, w_459⟩
theorem f_X11_101 : FSite RX11 101 6 7 true false (.array .int) := ⟨RX6, TX6, 18, tyX6, rfl, i_X6, by decide, w_104, rfl, by decide +kernel, tyX6_ok, nmX6, fun h => by cases h⟩
theorem pd_X11_isChild : (parseMethodDescriptor M_X11_isChild.1.desc).map (fun d => d.parameters.length) = some 1 := by decide +kernel
theorem s_X11_bed_90 : SiteV M_X11_bed M_X11_isChild 90 1 0 0 := ⟨⟨w_376, w_42, ⟨nh_X11.1, nh_X11.2, pd_X11_isChild⟩, ⟨Nat.le_of_ble_eq_true rfl, Nat.le_of_ble_eq_true rfl⟩, rfl, rfl⟩, w_373, w_375, w_2⟩
theorem s_X11_bed_57 : SiteS M_X11_bed M_X11_within 57 3 0 0 := ⟨⟨w_337, w_42, ⟨nh_X11.1, nh_X11.2, pd_X11_within⟩, ⟨Nat.le_of_ble_eq_true rfl, Nat.le_of_ble_eq_true rfl⟩, rfl, rfl⟩, w_335, w_336⟩
theorem s_X11_bed_61 : SiteV M_X11_bed M_X11_refuseBad 61 1 0 0 := ⟨⟨w_341, w_42, ⟨nh_X11.1, nh_X11.2, pd_X11_refuseBad⟩, ⟨Nat.le_of_ble_eq_true rfl, Nat.le_of_ble_eq_true rfl⟩, rfl, rfl⟩, w_338, w_340, w_0⟩
theorem pd_X6_keepForUndo : (parseMethodDescriptor M_X6_keepForUndo.1.desc).map (fun d => d.parameters.length) = some 3 := by decide +kernel
theorem s_X11_bed_97 : SiteV M_X11_bed M_X6_keepForUndo 97 3 0 0 := ⟨⟨w_380, w_43, ⟨nh_X6.1, nh_X6.2, pd_X6_keepForUndo⟩, ⟨Nat.le_of_ble_eq_true rfl, Nat.le_of_ble_eq_true rfl⟩, rfl, rfl⟩, w_377, w_378, w_379⟩
theorem s_X11_child_57 : SiteS M_X11_child M_X11_within 57 3 0 0 := ⟨⟨w_337, w_42, ⟨nh_X11.1, nh_X11.2, pd_X11_within⟩, ⟨Nat.le_of_ble_eq_true rfl, Nat.le_of_ble_eq_true rfl⟩, rfl, rfl⟩, w_335, w_336⟩
theorem pd_X11_isCell : (parseMethodDescriptor M_X11_isCell.1.desc).map (fun d => d.parameters.length) = some 1 := by decide +kernel
theorem s_X11_child_78 : SiteS M_X11_child M_X11_isCell 78 1 0 0 := ⟨⟨w_360, w_42, ⟨nh_X11.1, nh_X11.2, pd_X11_isCell⟩, ⟨Nat.le_of_ble_eq_true rfl, Nat.le_of_ble_eq_true rfl⟩, rfl, rfl⟩, w_358, w_359⟩
theorem s_X11_child_61 : SiteV M_X11_child M_X11_refuseBad 61 1 0 0 := ⟨⟨w_341, w_42, ⟨nh_X11.1, nh_X11.2, pd_X11_refuseBad⟩, ⟨Nat.le_of_ble_eq_true rfl, Nat.le_of_ble_eq_true rfl⟩, rfl, rfl⟩, w_338, w_340, w_0⟩
theorem s_X11_child_82 : SiteV M_X11_child M_X11_refuseFull 82 0 0 0 := ⟨⟨w_364, w_42, ⟨nh_X11.1, nh_X11.2, pd_X11_refuseFull⟩, ⟨Nat.le_of_ble_eq_true rfl, Nat.le_of_ble_eq_true rfl⟩, rfl, rfl⟩, w_361, w_363, w_1⟩
theorem pd_X6_addChild : (parseMethodDescriptor M_X6_addChild.1.desc).map (fun d => d.parameters.length) = some 5 := by decide +kernel
theorem s_X11_child_86 : SiteV M_X11_child M_X6_addChild 86 5 0 0 := ⟨⟨w_368, w_43, ⟨nh_X6.1, nh_X6.2, pd_X6_addChild⟩, ⟨Nat.le_of_ble_eq_true rfl, Nat.le_of_ble_eq_true rfl⟩, rfl, rfl⟩, w_365, w_366, w_367⟩
theorem f_X11_236 : FSite RX11 236 11 4 false true .boolean := ⟨RX11, TX11, 15, tyX11, rfl, i_X11, by decide, w_289, rfl, by decide +kernel, tyX11_ok, nmX11, fun _ => rfl⟩
theorem f_X11_240 : FSite RX11 240 11 5 false true .boolean := ⟨RX11, TX11, 15, tyX11, rfl, i_X11, by decide, w_290, rfl, by decide +kernel, tyX11_ok, nmX11, fun _ => rfl⟩
theorem f_X11_19 : FSite RX11 19 11 2 true true (.object "SmallestSpeed$Road") := ⟨RX11, TX11, 15, tyX11, rfl, i_X11, by decide, w_287, rfl, by decide +kernel, tyX11_ok, nmX11, fun _ => rfl⟩
theorem f_X11_22 : FSite RX11 22 11 3 true true (.object "SmallestSpeed$Road") := ⟨RX11, TX11, 15, tyX11, rfl, i_X11, by decide, w_288, rfl, by decide +kernel, tyX11_ok, nmX11, fun _ => rfl⟩
theorem pd_X11_isZeroOrOne : (parseMethodDescriptor M_X11_isZeroOrOne.1.desc).map (fun d => d.parameters.length) = some 1 := by decide +kernel
theorem s_X11_from_150 : SiteS M_X11_from M_X11_isZeroOrOne 150 1 0 0 := ⟨⟨w_571, w_42, ⟨nh_X11.1, nh_X11.2, pd_X11_isZeroOrOne⟩, ⟨Nat.le_of_ble_eq_true rfl, Nat.le_of_ble_eq_true rfl⟩, rfl, rfl⟩, w_569, w_570⟩
theorem s_X11_from_61 : SiteV M_X11_from M_X11_refuseBad 61 1 0 0 := ⟨⟨w_341, w_42, ⟨nh_X11.1, nh_X11.2, pd_X11_refuseBad⟩, ⟨Nat.le_of_ble_eq_true rfl, Nat.le_of_ble_eq_true rfl⟩, rfl, rfl⟩, w_338, w_340, w_0⟩
theorem s_X11_from_107 : SiteV M_X11_from M_X11_refuseNo 107 0 0 0 := ⟨⟨w_395, w_42, ⟨nh_X11.1, nh_X11.2, pd_X11_refuseNo⟩, ⟨Nat.le_of_ble_eq_true rfl, Nat.le_of_ble_eq_true rfl⟩, rfl, rfl⟩, w_392, w_394, w_3⟩
theorem pd_X6_copyFrom : (parseMethodDescriptor M_X6_copyFrom.1.desc).map (fun d => d.parameters.length) = some 1 := by decide +kernel
theorem s_X11_from_124 : SiteV M_X11_from M_X6_copyFrom 124 1 0 0 := ⟨⟨w_503, w_43, ⟨nh_X6.1, nh_X6.2, pd_X6_copyFrom⟩, ⟨Nat.le_of_ble_eq_true rfl, Nat.le_of_ble_eq_true rfl⟩, rfl, rfl⟩, w_500, w_501, w_502⟩
theorem s_X11_image_150 : SiteS M_X11_image M_X11_isZeroOrOne 150 1 0 0 := ⟨⟨w_571, w_42, ⟨nh_X11.1, nh_X11.2, pd_X11_isZeroOrOne⟩, ⟨Nat.le_of_ble_eq_true rfl, Nat.le_of_ble_eq_true rfl⟩, rfl, rfl⟩, w_569, w_570⟩
theorem s_X11_image_61 : SiteV M_X11_image M_X11_refuseBad 61 1 0 0 := ⟨⟨w_341, w_42, ⟨nh_X11.1, nh_X11.2, pd_X11_refuseBad⟩, ⟨Nat.le_of_ble_eq_true rfl, Nat.le_of_ble_eq_true rfl⟩, rfl, rfl⟩, w_338, w_340, w_0⟩
theorem s_X11_image_124 : SiteV M_X11_image M_X6_copyFrom 124 1 0 0 := ⟨⟨w_503, w_43, ⟨nh_X6.1, nh_X6.2, pd_X6_copyFrom⟩, ⟨Nat.le_of_ble_eq_true rfl, Nat.le_of_ble_eq_true rfl⟩, rfl, rfl⟩, w_500, w_501, w_502⟩
theorem s_X11_part_150 : SiteS M_X11_part M_X11_isZeroOrOne 150 1 0 0 := ⟨⟨w_571, w_42, ⟨nh_X11.1, nh_X11.2, pd_X11_isZeroOrOne⟩, ⟨Nat.le_of_ble_eq_true rfl, Nat.le_of_ble_eq_true rfl⟩, rfl, rfl⟩, w_569, w_570⟩
theorem s_X11_part_61 : SiteV M_X11_part M_X11_refuseBad 61 1 0 0 := ⟨⟨w_341, w_42, ⟨nh_X11.1, nh_X11.2, pd_X11_refuseBad⟩, ⟨Nat.le_of_ble_eq_true rfl, Nat.le_of_ble_eq_true rfl⟩, rfl, rfl⟩, w_338, w_340, w_0⟩
theorem s_X11_reading_78 : SiteS M_X11_reading M_X11_isCell 78 1 0 0 := ⟨⟨w_360, w_42, ⟨nh_X11.1, nh_X11.2, pd_X11_isCell⟩, ⟨Nat.le_of_ble_eq_true rfl, Nat.le_of_ble_eq_true rfl⟩, rfl, rfl⟩, w_358, w_359⟩
theorem pd_X11_isMinute : (parseMethodDescriptor M_X11_isMinute.1.desc).map (fun d => d.parameters.length) = some 1 := by decide +kernel
theorem s_X11_reading_128 : SiteS M_X11_reading M_X11_isMinute 128 1 0 0 := ⟨⟨w_511, w_42, ⟨nh_X11.1, nh_X11.2, pd_X11_isMinute⟩, ⟨Nat.le_of_ble_eq_true rfl, Nat.le_of_ble_eq_true rfl⟩, rfl, rfl⟩, w_509, w_510⟩
theorem s_X11_reading_57 : SiteS M_X11_reading M_X11_within 57 3 0 0 := ⟨⟨w_337, w_42, ⟨nh_X11.1, nh_X11.2, pd_X11_within⟩, ⟨Nat.le_of_ble_eq_true rfl, Nat.le_of_ble_eq_true rfl⟩, rfl, rfl⟩, w_335, w_336⟩
theorem s_X11_reading_61 : SiteV M_X11_reading M_X11_refuseBad 61 1 0 0 := ⟨⟨w_341, w_42, ⟨nh_X11.1, nh_X11.2, pd_X11_refuseBad⟩, ⟨Nat.le_of_ble_eq_true rfl, Nat.le_of_ble_eq_true rfl⟩, rfl, rfl⟩, w_338, w_340, w_0⟩
theorem s_X11_reading_82 : SiteV M_X11_reading M_X11_refuseFull 82 0 0 0 := ⟨⟨w_364, w_42, ⟨nh_X11.1, nh_X11.2, pd_X11_refuseFull⟩, ⟨Nat.le_of_ble_eq_true rfl, Nat.le_of_ble_eq_true rfl⟩, rfl, rfl⟩, w_361, w_363, w_1⟩
theorem pd_X6_addReading : (parseMethodDescriptor M_X6_addReading.1.desc).map (fun d => d.parameters.length) = some 3 := by decide +kernel
theorem s_X11_reading_200 : SiteV M_X11_reading M_X6_addReading 200 3 0 0 := ⟨⟨w_716, w_43, ⟨nh_X6.1, nh_X6.2, pd_X6_addReading⟩, ⟨Nat.le_of_ble_eq_true rfl, Nat.le_of_ble_eq_true rfl⟩, rfl, rfl⟩, w_713, w_714, w_715⟩
theorem f_X11_93 : FSite RX11 93 6 5 true false (.array .int) := ⟨RX6, TX6, 18, tyX6, rfl, i_X6, by decide, w_97, rfl, by decide +kernel, tyX6_ok, nmX6, fun h => by cases h⟩
theorem s_X11_stand_90 : SiteV M_X11_stand M_X11_isChild 90 1 0 0 := ⟨⟨w_376, w_42, ⟨nh_X11.1, nh_X11.2, pd_X11_isChild⟩, ⟨Nat.le_of_ble_eq_true rfl, Nat.le_of_ble_eq_true rfl⟩, rfl, rfl⟩, w_373, w_375, w_2⟩
theorem s_X11_stand_78 : SiteS M_X11_stand M_X11_isCell 78 1 0 0 := ⟨⟨w_360, w_42, ⟨nh_X11.1, nh_X11.2, pd_X11_isCell⟩, ⟨Nat.le_of_ble_eq_true rfl, Nat.le_of_ble_eq_true rfl⟩, rfl, rfl⟩, w_358, w_359⟩
theorem s_X11_stand_61 : SiteV M_X11_stand M_X11_refuseBad 61 1 0 0 := ⟨⟨w_341, w_42, ⟨nh_X11.1, nh_X11.2, pd_X11_refuseBad⟩, ⟨Nat.le_of_ble_eq_true rfl, Nat.le_of_ble_eq_true rfl⟩, rfl, rfl⟩, w_338, w_340, w_0⟩
theorem s_X11_stand_97 : SiteV M_X11_stand M_X6_keepForUndo 97 3 0 0 := ⟨⟨w_380, w_43, ⟨nh_X6.1, nh_X6.2, pd_X6_keepForUndo⟩, ⟨Nat.le_of_ble_eq_true rfl, Nat.le_of_ble_eq_true rfl⟩, rfl, rfl⟩, w_377, w_378, w_379⟩
theorem s_X12_child_65 : SiteS M_X12_child M_X12_in 65 3 0 0 := ⟨⟨w_904, w_54, ⟨nh_X12.1, nh_X12.2, pd_X12_in⟩, ⟨Nat.le_of_ble_eq_true rfl, Nat.le_of_ble_eq_true rfl⟩, rfl, rfl⟩, w_902, w_903⟩
theorem pd_X12_isCell : (parseMethodDescriptor M_X12_isCell.1.desc).map (fun d => d.parameters.length) = some 1 := by decide +kernel
theorem s_X12_child_83 : SiteS M_X12_child M_X12_isCell 83 1 0 0 := ⟨⟨w_930, w_54, ⟨nh_X12.1, nh_X12.2, pd_X12_isCell⟩, ⟨Nat.le_of_ble_eq_true rfl, Nat.le_of_ble_eq_true rfl⟩, rfl, rfl⟩, w_928, w_929⟩
theorem s_X12_child_75 : SiteV M_X12_child M_X12_bad 75 1 0 0 := ⟨⟨w_909, w_54, ⟨nh_X12.1, nh_X12.2, pd_X12_bad⟩, ⟨Nat.le_of_ble_eq_true rfl, Nat.le_of_ble_eq_true rfl⟩, rfl, rfl⟩, w_906, w_908, w_6⟩
theorem s_X12_child_61 : SiteV M_X12_child M_X12_children 61 0 0 0 := ⟨⟨w_913, w_54, ⟨nh_X12.1, nh_X12.2, pd_X12_children⟩, ⟨Nat.le_of_ble_eq_true rfl, Nat.le_of_ble_eq_true rfl⟩, rfl, rfl⟩, w_910, w_912, w_7⟩
theorem s_X12_child_91 : SiteV M_X12_child M_X12_full 91 0 0 0 := ⟨⟨w_936, w_54, ⟨nh_X12.1, nh_X12.2, pd_X12_full⟩, ⟨Nat.le_of_ble_eq_true rfl, Nat.le_of_ble_eq_true rfl⟩, rfl, rfl⟩, w_933, w_935, w_8⟩
theorem pd_X12_layChild : (parseMethodDescriptor M_X12_layChild.1.desc).map (fun d => d.parameters.length) = some 6 := by decide +kernel
theorem s_X12_child_94 : SiteS M_X12_child M_X12_layChild 94 6 0 0 := ⟨⟨w_939, w_54, ⟨nh_X12.1, nh_X12.2, pd_X12_layChild⟩, ⟨Nat.le_of_ble_eq_true rfl, Nat.le_of_ble_eq_true rfl⟩, rfl, rfl⟩, w_937, w_938⟩
theorem pd_X12_isOut : (parseMethodDescriptor M_X12_isOut.1.desc).map (fun d => d.parameters.length) = some 2 := by decide +kernel
theorem s_X12_isSeen_125 : SiteV M_X12_isSeen M_X12_isOut 125 2 0 0 := ⟨⟨w_995, w_54, ⟨nh_X12.1, nh_X12.2, pd_X12_isOut⟩, ⟨Nat.le_of_ble_eq_true rfl, Nat.le_of_ble_eq_true rfl⟩, rfl, rfl⟩, w_992, w_994, w_17⟩
theorem pd_X12_cellOf : (parseMethodDescriptor M_X12_cellOf.1.desc).map (fun d => d.parameters.length) = some 2 := by decide +kernel
theorem s_X12_isSeen_129 : SiteV M_X12_isSeen M_X12_cellOf 129 2 0 0 := ⟨⟨w_991, w_54, ⟨nh_X12.1, nh_X12.2, pd_X12_cellOf⟩, ⟨Nat.le_of_ble_eq_true rfl, Nat.le_of_ble_eq_true rfl⟩, rfl, rfl⟩, w_988, w_990, w_16⟩
theorem pd_X12_apart : (parseMethodDescriptor M_X12_apart.1.desc).map (fun d => d.parameters.length) = some 2 := by decide +kernel
theorem s_X12_isSeen_132 : SiteS M_X12_isSeen M_X12_apart 132 2 0 0 := ⟨⟨w_1024, w_54, ⟨nh_X12.1, nh_X12.2, pd_X12_apart⟩, ⟨Nat.le_of_ble_eq_true rfl, Nat.le_of_ble_eq_true rfl⟩, rfl, rfl⟩, w_1022, w_1023⟩
theorem f_X12_245 : FSite RX12 245 12 19 false true .int := ⟨RX12, TX12, 22, tyX12, rfl, i_X12, by decide, w_849, rfl, by decide +kernel, tyX12_ok, nmX12, fun _ => rfl⟩
theorem pd_X12_isSmall : (parseMethodDescriptor M_X12_isSmall.1.desc).map (fun d => d.parameters.length) = some 1 := by decide +kernel
theorem s_X12_lookAt_248 : SiteS M_X12_lookAt M_X12_isSmall 248 1 0 0 := ⟨⟨w_1169, w_54, ⟨nh_X12.1, nh_X12.2, pd_X12_isSmall⟩, ⟨Nat.le_of_ble_eq_true rfl, Nat.le_of_ble_eq_true rfl⟩, rfl, rfl⟩, w_1167, w_1168⟩
theorem pd_X12_isFigure : (parseMethodDescriptor M_X12_isFigure.1.desc).map (fun d => d.parameters.length) = some 1 := by decide +kernel
theorem s_X12_lookAt_251 : SiteS M_X12_lookAt M_X12_isFigure 251 1 0 0 := ⟨⟨w_1174, w_54, ⟨nh_X12.1, nh_X12.2, pd_X12_isFigure⟩, ⟨Nat.le_of_ble_eq_true rfl, Nat.le_of_ble_eq_true rfl⟩, rfl, rfl⟩, w_1172, w_1173⟩
theorem pd_X12_isChild : (parseMethodDescriptor M_X12_isChild.1.desc).map (fun d => d.parameters.length) = some 1 := by decide +kernel
theorem s_X12_of_105 : SiteV M_X12_of M_X12_isChild 105 1 0 0 := ⟨⟨w_947, w_54, ⟨nh_X12.1, nh_X12.2, pd_X12_isChild⟩, ⟨Nat.le_of_ble_eq_true rfl, Nat.le_of_ble_eq_true rfl⟩, rfl, rfl⟩, w_944, w_946, w_9⟩
theorem pd_X12_isMinute : (parseMethodDescriptor M_X12_isMinute.1.desc).map (fun d => d.parameters.length) = some 1 := by decide +kernel
theorem s_X12_of_149 : SiteS M_X12_of M_X12_isMinute 149 1 0 0 := ⟨⟨w_978, w_54, ⟨nh_X12.1, nh_X12.2, pd_X12_isMinute⟩, ⟨Nat.le_of_ble_eq_true rfl, Nat.le_of_ble_eq_true rfl⟩, rfl, rfl⟩, w_976, w_977⟩
theorem s_X12_of_65 : SiteS M_X12_of M_X12_in 65 3 0 0 := ⟨⟨w_904, w_54, ⟨nh_X12.1, nh_X12.2, pd_X12_in⟩, ⟨Nat.le_of_ble_eq_true rfl, Nat.le_of_ble_eq_true rfl⟩, rfl, rfl⟩, w_902, w_903⟩
theorem s_X12_of_75 : SiteV M_X12_of M_X12_bad 75 1 0 0 := ⟨⟨w_909, w_54, ⟨nh_X12.1, nh_X12.2, pd_X12_bad⟩, ⟨Nat.le_of_ble_eq_true rfl, Nat.le_of_ble_eq_true rfl⟩, rfl, rfl⟩, w_906, w_908, w_6⟩
theorem pd_X12_all : (parseMethodDescriptor M_X12_all.1.desc).map (fun d => d.parameters.length) = some 0 := by decide +kernel
theorem s_X12_of_152 : SiteV M_X12_of M_X12_all 152 0 0 0 := ⟨⟨w_983, w_54, ⟨nh_X12.1, nh_X12.2, pd_X12_all⟩, ⟨Nat.le_of_ble_eq_true rfl, Nat.le_of_ble_eq_true rfl⟩, rfl, rfl⟩, w_980, w_982, w_14⟩
theorem pd_X12_layHand : (parseMethodDescriptor M_X12_layHand.1.desc).map (fun d => d.parameters.length) = some 1 := by decide +kernel
theorem s_X12_of_155 : SiteV M_X12_of M_X12_layHand 155 1 0 0 := ⟨⟨w_987, w_54, ⟨nh_X12.1, nh_X12.2, pd_X12_layHand⟩, ⟨Nat.le_of_ble_eq_true rfl, Nat.le_of_ble_eq_true rfl⟩, rfl, rfl⟩, w_984, w_986, w_15⟩
theorem s_X12_of_129 : SiteV M_X12_of M_X12_cellOf 129 2 0 0 := ⟨⟨w_991, w_54, ⟨nh_X12.1, nh_X12.2, pd_X12_cellOf⟩, ⟨Nat.le_of_ble_eq_true rfl, Nat.le_of_ble_eq_true rfl⟩, rfl, rfl⟩, w_988, w_990, w_16⟩
theorem s_X12_of_125 : SiteV M_X12_of M_X12_isOut 125 2 0 0 := ⟨⟨w_995, w_54, ⟨nh_X12.1, nh_X12.2, pd_X12_isOut⟩, ⟨Nat.le_of_ble_eq_true rfl, Nat.le_of_ble_eq_true rfl⟩, rfl, rfl⟩, w_992, w_994, w_17⟩
theorem pd_X12_countsOf : (parseMethodDescriptor M_X12_countsOf.1.desc).map (fun d => d.parameters.length) = some 2 := by decide +kernel
theorem s_X12_of_140 : SiteV M_X12_of M_X12_countsOf 140 2 0 0 := ⟨⟨w_999, w_54, ⟨nh_X12.1, nh_X12.2, pd_X12_countsOf⟩, ⟨Nat.le_of_ble_eq_true rfl, Nat.le_of_ble_eq_true rfl⟩, rfl, rfl⟩, w_996, w_998, w_18⟩
theorem s_X12_of_98 : SiteV M_X12_of M_X12_get 98 2 0 0 := ⟨⟨w_955, w_54, ⟨nh_X12.1, nh_X12.2, pd_X12_get⟩, ⟨Nat.le_of_ble_eq_true rfl, Nat.le_of_ble_eq_true rfl⟩, rfl, rfl⟩, w_952, w_954, w_11⟩
theorem s_X12_pastIn_61 : SiteV M_X12_pastIn M_X12_children 61 0 0 0 := ⟨⟨w_913, w_54, ⟨nh_X12.1, nh_X12.2, pd_X12_children⟩, ⟨Nat.le_of_ble_eq_true rfl, Nat.le_of_ble_eq_true rfl⟩, rfl, rfl⟩, w_910, w_912, w_7⟩
theorem s_X12_pastIn_125 : SiteV M_X12_pastIn M_X12_isOut 125 2 0 0 := ⟨⟨w_995, w_54, ⟨nh_X12.1, nh_X12.2, pd_X12_isOut⟩, ⟨Nat.le_of_ble_eq_true rfl, Nat.le_of_ble_eq_true rfl⟩, rfl, rfl⟩, w_992, w_994, w_17⟩
theorem s_X12_pastIn_129 : SiteV M_X12_pastIn M_X12_cellOf 129 2 0 0 := ⟨⟨w_991, w_54, ⟨nh_X12.1, nh_X12.2, pd_X12_cellOf⟩, ⟨Nat.le_of_ble_eq_true rfl, Nat.le_of_ble_eq_true rfl⟩, rfl, rfl⟩, w_988, w_990, w_16⟩
theorem s_X12_pastIn_65 : SiteS M_X12_pastIn M_X12_in 65 3 0 0 := ⟨⟨w_904, w_54, ⟨nh_X12.1, nh_X12.2, pd_X12_in⟩, ⟨Nat.le_of_ble_eq_true rfl, Nat.le_of_ble_eq_true rfl⟩, rfl, rfl⟩, w_902, w_903⟩
theorem s_X12_reading_83 : SiteS M_X12_reading M_X12_isCell 83 1 0 0 := ⟨⟨w_930, w_54, ⟨nh_X12.1, nh_X12.2, pd_X12_isCell⟩, ⟨Nat.le_of_ble_eq_true rfl, Nat.le_of_ble_eq_true rfl⟩, rfl, rfl⟩, w_928, w_929⟩
theorem s_X12_reading_149 : SiteS M_X12_reading M_X12_isMinute 149 1 0 0 := ⟨⟨w_978, w_54, ⟨nh_X12.1, nh_X12.2, pd_X12_isMinute⟩, ⟨Nat.le_of_ble_eq_true rfl, Nat.le_of_ble_eq_true rfl⟩, rfl, rfl⟩, w_976, w_977⟩
theorem s_X12_reading_65 : SiteS M_X12_reading M_X12_in 65 3 0 0 := ⟨⟨w_904, w_54, ⟨nh_X12.1, nh_X12.2, pd_X12_in⟩, ⟨Nat.le_of_ble_eq_true rfl, Nat.le_of_ble_eq_true rfl⟩, rfl, rfl⟩, w_902, w_903⟩
theorem s_X12_reading_75 : SiteV M_X12_reading M_X12_bad 75 1 0 0 := ⟨⟨w_909, w_54, ⟨nh_X12.1, nh_X12.2, pd_X12_bad⟩, ⟨Nat.le_of_ble_eq_true rfl, Nat.le_of_ble_eq_true rfl⟩, rfl, rfl⟩, w_906, w_908, w_6⟩
theorem s_X12_reading_91 : SiteV M_X12_reading M_X12_full 91 0 0 0 := ⟨⟨w_936, w_54, ⟨nh_X12.1, nh_X12.2, pd_X12_full⟩, ⟨Nat.le_of_ble_eq_true rfl, Nat.le_of_ble_eq_true rfl⟩, rfl, rfl⟩, w_933, w_935, w_8⟩
theorem s_X12_tellAnew_98 : SiteV M_X12_tellAnew M_X12_get 98 2 0 0 := ⟨⟨w_955, w_54, ⟨nh_X12.1, nh_X12.2, pd_X12_get⟩, ⟨Nat.le_of_ble_eq_true rfl, Nat.le_of_ble_eq_true rfl⟩, rfl, rfl⟩, w_952, w_954, w_11⟩
theorem pd_X12_keep : (parseMethodDescriptor M_X12_keep.1.desc).map (fun d => d.parameters.length) = some 0 := by decide +kernel
theorem s_X12_tellAnew_102 : SiteV M_X12_tellAnew M_X12_keep 102 0 0 0 := ⟨⟨w_959, w_54, ⟨nh_X12.1, nh_X12.2, pd_X12_keep⟩, ⟨Nat.le_of_ble_eq_true rfl, Nat.le_of_ble_eq_true rfl⟩, rfl, rfl⟩, w_956, w_958, w_12⟩
theorem pd_X10_init : (parseMethodDescriptor M_X10_init.1.desc).map (fun d => d.parameters.length) = some 0 := by decide +kernel
theorem s_X2_init_3 : SiteIN M_X2_init M_X10_init 3 0 0 0 "SmallestSpeed" := ⟨⟨w_190, w_46, ⟨nh_X10.1, nh_X10.2, pd_X10_init⟩, ⟨Nat.le_of_ble_eq_true rfl, Nat.le_of_ble_eq_true rfl⟩, rfl, rfl⟩, rfl, by decide +kernel, w_189, List.mem_of_getElem? (i := 11) (by decide +kernel)⟩
theorem s_X3_init_3 : SiteIN M_X3_init M_X10_init 3 0 0 0 "SmallestSpeed" := ⟨⟨w_190, w_46, ⟨nh_X10.1, nh_X10.2, pd_X10_init⟩, ⟨Nat.le_of_ble_eq_true rfl, Nat.le_of_ble_eq_true rfl⟩, rfl, rfl⟩, rfl, by decide +kernel, w_189, List.mem_of_getElem? (i := 5) (by decide +kernel)⟩
theorem nh_X4 : (RX4 ≠ "java/lang/invoke/MethodHandle") ∧ (RX4 ≠ "java/lang/invoke/VarHandle") := ⟨by decide +kernel, by decide +kernel⟩
theorem pd_X4_isSeen : (parseMethodDescriptor M_X4_isSeen.1.desc).map (fun d => d.parameters.length) = some 4 := by decide +kernel
theorem s_X4_lowestIn_108 : SiteV M_X4_lowestIn M_X4_isSeen 108 4 0 0 := ⟨⟨w_587, w_45, ⟨nh_X4.1, nh_X4.2, pd_X4_isSeen⟩, ⟨Nat.le_of_ble_eq_true rfl, Nat.le_of_ble_eq_true rfl⟩, rfl, rfl⟩, w_584, w_585, w_586⟩
theorem s_X4_lowestIn_117 : SiteS M_X4_lowestIn M_J9_min_7cf53 117 2 0 0 := ⟨⟨w_529, w_60, ⟨nh_J9.1, nh_J9.2, pd_J9_min_7cf53⟩, ⟨Nat.le_of_ble_eq_true rfl, Nat.le_of_ble_eq_true rfl⟩, rfl, rfl⟩, w_591, w_528⟩
theorem s_X4_nearestBehind_108 : SiteV M_X4_nearestBehind M_X4_isSeen 108 4 0 0 := ⟨⟨w_587, w_45, ⟨nh_X4.1, nh_X4.2, pd_X4_isSeen⟩, ⟨Nat.le_of_ble_eq_true rfl, Nat.le_of_ble_eq_true rfl⟩, rfl, rfl⟩, w_584, w_585, w_586⟩
theorem s_X4_nearestBehind_112 : SiteS M_X4_nearestBehind M_J9_abs_0f7a4 112 1 0 0 := ⟨⟨w_590, w_60, ⟨nh_J9.1, nh_J9.2, pd_J9_abs_0f7a4⟩, ⟨Nat.le_of_ble_eq_true rfl, Nat.le_of_ble_eq_true rfl⟩, rfl, rfl⟩, w_588, w_589⟩
theorem s_X5_init_3 : SiteIN M_X5_init M_X10_init 3 0 0 0 "SmallestSpeed" := ⟨⟨w_190, w_46, ⟨nh_X10.1, nh_X10.2, pd_X10_init⟩, ⟨Nat.le_of_ble_eq_true rfl, Nat.le_of_ble_eq_true rfl⟩, rfl, rfl⟩, rfl, by decide +kernel, w_189, List.mem_of_getElem? (i := 7) (by decide +kernel)⟩
theorem nh_X3 : (RX3 ≠ "java/lang/invoke/MethodHandle") ∧ (RX3 ≠ "java/lang/invoke/VarHandle") := ⟨by decide +kernel, by decide +kernel⟩
theorem pd_X3_highIn : (parseMethodDescriptor M_X3_highIn.1.desc).map (fun d => d.parameters.length) = some 2 := by decide +kernel
theorem s_X9_highIn_7 : SiteSU M_X9_highIn M_X3_highIn 7 2 0 0 := ⟨⟨w_553, w_47, ⟨nh_X3.1, nh_X3.2, pd_X3_highIn⟩, ⟨Nat.le_of_ble_eq_true rfl, Nat.le_of_ble_eq_true rfl⟩, rfl, rfl⟩, by decide +kernel, w_560, w_1231, w_213, w_552⟩
theorem pd_J9_max_7cf53 : (parseMethodDescriptor M_J9_max_7cf53.1.desc).map (fun d => d.parameters.length) = some 2 := by decide +kernel
theorem s_X9_highIn_11 : SiteS M_X9_highIn M_J9_max_7cf53 11 2 0 0 := ⟨⟨w_563, w_60, ⟨nh_J9.1, nh_J9.2, pd_J9_max_7cf53⟩, ⟨Nat.le_of_ble_eq_true rfl, Nat.le_of_ble_eq_true rfl⟩, rfl, rfl⟩, w_561, w_562⟩
theorem nh_X5 : (RX5 ≠ "java/lang/invoke/MethodHandle") ∧ (RX5 ≠ "java/lang/invoke/VarHandle") := ⟨by decide +kernel, by decide +kernel⟩
theorem pd_X5_init : (parseMethodDescriptor M_X5_init.1.desc).map (fun d => d.parameters.length) = some 0 := by decide +kernel
theorem s_X0_init_1 : SiteIN M_X0_init M_X5_init 1 0 0 0 "SmallestSpeed" := ⟨⟨w_204, w_48, ⟨nh_X5.1, nh_X5.2, pd_X5_init⟩, ⟨Nat.le_of_ble_eq_true rfl, Nat.le_of_ble_eq_true rfl⟩, rfl, rfl⟩, rfl, by decide +kernel, w_203, List.mem_of_getElem? (i := 13) (by decide +kernel)⟩
theorem s_X12_bed_105 : SiteV M_X12_bed M_X12_isChild 105 1 0 0 := ⟨⟨w_947, w_54, ⟨nh_X12.1, nh_X12.2, pd_X12_isChild⟩, ⟨Nat.le_of_ble_eq_true rfl, Nat.le_of_ble_eq_true rfl⟩, rfl, rfl⟩, w_944, w_946, w_9⟩
theorem s_X12_bed_65 : SiteS M_X12_bed M_X12_in 65 3 0 0 := ⟨⟨w_904, w_54, ⟨nh_X12.1, nh_X12.2, pd_X12_in⟩, ⟨Nat.le_of_ble_eq_true rfl, Nat.le_of_ble_eq_true rfl⟩, rfl, rfl⟩, w_902, w_903⟩
theorem pd_X12_tellAnew : (parseMethodDescriptor M_X12_tellAnew.1.desc).map (fun d => d.parameters.length) = some 3 := by decide +kernel
theorem s_X12_bed_108 : SiteV M_X12_bed M_X12_tellAnew 108 3 0 0 := ⟨⟨w_951, w_54, ⟨nh_X12.1, nh_X12.2, pd_X12_tellAnew⟩, ⟨Nat.le_of_ble_eq_true rfl, Nat.le_of_ble_eq_true rfl⟩, rfl, rfl⟩, w_948, w_950, w_10⟩
theorem s_X12_bed_75 : SiteV M_X12_bed M_X12_bad 75 1 0 0 := ⟨⟨w_909, w_54, ⟨nh_X12.1, nh_X12.2, pd_X12_bad⟩, ⟨Nat.le_of_ble_eq_true rfl, Nat.le_of_ble_eq_true rfl⟩, rfl, rfl⟩, w_906, w_908, w_6⟩
theorem pd_X12_lookAt : (parseMethodDescriptor M_X12_lookAt.1.desc).map (fun d => d.parameters.length) = some 1 := by decide +kernel
theorem s_X12_goBehind_254 : SiteV M_X12_goBehind M_X12_lookAt 254 1 0 0 := ⟨⟨w_1166, w_54, ⟨nh_X12.1, nh_X12.2, pd_X12_lookAt⟩, ⟨Nat.le_of_ble_eq_true rfl, Nat.le_of_ble_eq_true rfl⟩, rfl, rfl⟩, w_1163, w_1165, w_33⟩
theorem s_X12_lowest_61 : SiteV M_X12_lowest M_X12_children 61 0 0 0 := ⟨⟨w_913, w_54, ⟨nh_X12.1, nh_X12.2, pd_X12_children⟩, ⟨Nat.le_of_ble_eq_true rfl, Nat.le_of_ble_eq_true rfl⟩, rfl, rfl⟩, w_910, w_912, w_7⟩
theorem pd_X12_isSeen : (parseMethodDescriptor M_X12_isSeen.1.desc).map (fun d => d.parameters.length) = some 3 := by decide +kernel
theorem s_X12_lowest_135 : SiteV M_X12_lowest M_X12_isSeen 135 3 0 0 := ⟨⟨w_1021, w_54, ⟨nh_X12.1, nh_X12.2, pd_X12_isSeen⟩, ⟨Nat.le_of_ble_eq_true rfl, Nat.le_of_ble_eq_true rfl⟩, rfl, rfl⟩, w_1018, w_1020, w_21⟩
theorem s_X12_lowest_140 : SiteV M_X12_lowest M_X12_countsOf 140 2 0 0 := ⟨⟨w_999, w_54, ⟨nh_X12.1, nh_X12.2, pd_X12_countsOf⟩, ⟨Nat.le_of_ble_eq_true rfl, Nat.le_of_ble_eq_true rfl⟩, rfl, rfl⟩, w_996, w_998, w_18⟩
theorem s_X12_lowest_119 : SiteS M_X12_lowest M_X12_least 119 2 0 0 := ⟨⟨w_1002, w_54, ⟨nh_X12.1, nh_X12.2, pd_X12_least⟩, ⟨Nat.le_of_ble_eq_true rfl, Nat.le_of_ble_eq_true rfl⟩, rfl, rfl⟩, w_1000, w_1001⟩
theorem s_X12_nearest_61 : SiteV M_X12_nearest M_X12_children 61 0 0 0 := ⟨⟨w_913, w_54, ⟨nh_X12.1, nh_X12.2, pd_X12_children⟩, ⟨Nat.le_of_ble_eq_true rfl, Nat.le_of_ble_eq_true rfl⟩, rfl, rfl⟩, w_910, w_912, w_7⟩
theorem s_X12_nearest_135 : SiteV M_X12_nearest M_X12_isSeen 135 3 0 0 := ⟨⟨w_1021, w_54, ⟨nh_X12.1, nh_X12.2, pd_X12_isSeen⟩, ⟨Nat.le_of_ble_eq_true rfl, Nat.le_of_ble_eq_true rfl⟩, rfl, rfl⟩, w_1018, w_1020, w_21⟩
theorem s_X12_nearest_129 : SiteV M_X12_nearest M_X12_cellOf 129 2 0 0 := ⟨⟨w_991, w_54, ⟨nh_X12.1, nh_X12.2, pd_X12_cellOf⟩, ⟨Nat.le_of_ble_eq_true rfl, Nat.le_of_ble_eq_true rfl⟩, rfl, rfl⟩, w_988, w_990, w_16⟩
theorem s_X12_nearest_132 : SiteS M_X12_nearest M_X12_apart 132 2 0 0 := ⟨⟨w_1024, w_54, ⟨nh_X12.1, nh_X12.2, pd_X12_apart⟩, ⟨Nat.le_of_ble_eq_true rfl, Nat.le_of_ble_eq_true rfl⟩, rfl, rfl⟩, w_1022, w_1023⟩
theorem s_X12_nearest_140 : SiteV M_X12_nearest M_X12_countsOf 140 2 0 0 := ⟨⟨w_999, w_54, ⟨nh_X12.1, nh_X12.2, pd_X12_countsOf⟩, ⟨Nat.le_of_ble_eq_true rfl, Nat.le_of_ble_eq_true rfl⟩, rfl, rfl⟩, w_996, w_998, w_18⟩
theorem s_X12_stand_105 : SiteV M_X12_stand M_X12_isChild 105 1 0 0 := ⟨⟨w_947, w_54, ⟨nh_X12.1, nh_X12.2, pd_X12_isChild⟩, ⟨Nat.le_of_ble_eq_true rfl, Nat.le_of_ble_eq_true rfl⟩, rfl, rfl⟩, w_944, w_946, w_9⟩
theorem s_X12_stand_83 : SiteS M_X12_stand M_X12_isCell 83 1 0 0 := ⟨⟨w_930, w_54, ⟨nh_X12.1, nh_X12.2, pd_X12_isCell⟩, ⟨Nat.le_of_ble_eq_true rfl, Nat.le_of_ble_eq_true rfl⟩, rfl, rfl⟩, w_928, w_929⟩
theorem s_X12_stand_108 : SiteV M_X12_stand M_X12_tellAnew 108 3 0 0 := ⟨⟨w_951, w_54, ⟨nh_X12.1, nh_X12.2, pd_X12_tellAnew⟩, ⟨Nat.le_of_ble_eq_true rfl, Nat.le_of_ble_eq_true rfl⟩, rfl, rfl⟩, w_948, w_950, w_10⟩
theorem s_X12_stand_75 : SiteV M_X12_stand M_X12_bad 75 1 0 0 := ⟨⟨w_909, w_54, ⟨nh_X12.1, nh_X12.2, pd_X12_bad⟩, ⟨Nat.le_of_ble_eq_true rfl, Nat.le_of_ble_eq_true rfl⟩, rfl, rfl⟩, w_906, w_908, w_6⟩
theorem f_X4_88 : FSite RX4 88 6 1 false false .int := ⟨RX6, TX6, 18, tyX6, rfl, i_X6, by decide, w_82, rfl, by decide +kernel, tyX6_ok, nmX6, fun h => by cases h⟩
theorem pd_X4_lowestIn : (parseMethodDescriptor M_X4_lowestIn.1.desc).map (fun d => d.parameters.length) = some 3 := by decide +kernel
theorem s_X4_limitIn_91 : SiteV M_X4_limitIn M_X4_lowestIn 91 3 0 0 := ⟨⟨w_583, w_45, ⟨nh_X4.1, nh_X4.2, pd_X4_lowestIn⟩, ⟨Nat.le_of_ble_eq_true rfl, Nat.le_of_ble_eq_true rfl⟩, rfl, rfl⟩, w_580, w_581, w_582⟩
theorem pd_X4_nearestBehind : (parseMethodDescriptor M_X4_nearestBehind.1.desc).map (fun d => d.parameters.length) = some 4 := by decide +kernel
theorem s_X4_limitIn_95 : SiteV M_X4_limitIn M_X4_nearestBehind 95 4 0 0 := ⟨⟨w_595, w_45, ⟨nh_X4.1, nh_X4.2, pd_X4_nearestBehind⟩, ⟨Nat.le_of_ble_eq_true rfl, Nat.le_of_ble_eq_true rfl⟩, rfl, rfl⟩, w_592, w_593, w_594⟩
theorem pd_X4_highByRank : (parseMethodDescriptor M_X4_highByRank.1.desc).map (fun d => d.parameters.length) = some 1 := by decide +kernel
theorem s_X4_limitIn_100 : SiteS M_X4_limitIn M_X4_highByRank 100 1 0 0 := ⟨⟨w_599, w_45, ⟨nh_X4.1, nh_X4.2, pd_X4_highByRank⟩, ⟨Nat.le_of_ble_eq_true rfl, Nat.le_of_ble_eq_true rfl⟩, rfl, rfl⟩, w_597, w_598⟩
theorem s_X4_nearestChild_104 : SiteV M_X4_nearestChild M_X6_everyChild 104 0 0 0 := ⟨⟨w_575, w_43, ⟨nh_X6.1, nh_X6.2, pd_X6_everyChild⟩, ⟨Nat.le_of_ble_eq_true rfl, Nat.le_of_ble_eq_true rfl⟩, rfl, rfl⟩, w_604, w_573, w_574⟩
theorem s_X4_nearestChild_95 : SiteV M_X4_nearestChild M_X4_nearestBehind 95 4 0 0 := ⟨⟨w_595, w_45, ⟨nh_X4.1, nh_X4.2, pd_X4_nearestBehind⟩, ⟨Nat.le_of_ble_eq_true rfl, Nat.le_of_ble_eq_true rfl⟩, rfl, rfl⟩, w_592, w_593, w_594⟩
theorem f_X4_61 : FSite RX4 61 6 3 true false (.array .int) := ⟨RX6, TX6, 18, tyX6, rfl, i_X6, by decide, w_89, rfl, by decide +kernel, tyX6_ok, nmX6, fun h => by cases h⟩
theorem f_X4_68 : FSite RX4 68 6 5 true false (.array .int) := ⟨RX6, TX6, 18, tyX6, rfl, i_X6, by decide, w_96, rfl, by decide +kernel, tyX6_ok, nmX6, fun h => by cases h⟩
theorem f_X4_71 : FSite RX4 71 6 6 true false (.array .int) := ⟨RX6, TX6, 18, tyX6, rfl, i_X6, by decide, w_100, rfl, by decide +kernel, tyX6_ok, nmX6, fun h => by cases h⟩
theorem f_X4_78 : FSite RX4 78 6 7 true false (.array .int) := ⟨RX6, TX6, 18, tyX6, rfl, i_X6, by decide, w_103, rfl, by decide +kernel, tyX6_ok, nmX6, fun h => by cases h⟩
theorem f_X4_81 : FSite RX4 81 6 4 true false (.array .int) := ⟨RX6, TX6, 18, tyX6, rfl, i_X6, by decide, w_93, rfl, by decide +kernel, tyX6_ok, nmX6, fun h => by cases h⟩
theorem pd_X4_kindOf : (parseMethodDescriptor M_X4_kindOf.1.desc).map (fun d => d.parameters.length) = some 1 := by decide +kernel
theorem s_X4_see_64 : SiteV M_X4_see M_X4_kindOf 64 1 0 0 := ⟨⟨w_519, w_45, ⟨nh_X4.1, nh_X4.2, pd_X4_kindOf⟩, ⟨Nat.le_of_ble_eq_true rfl, Nat.le_of_ble_eq_true rfl⟩, rfl, rfl⟩, w_516, w_517, w_518⟩
theorem pd_X10_cellIn : (parseMethodDescriptor M_X10_cellIn.1.desc).map (fun d => d.parameters.length) = some 3 := by decide +kernel
theorem s_X4_see_74_X10 : SiteU M_X4_see M_X10_cellIn 74 3 0 0 RX10 RX10 ⟨"SmallestSpeed$Walker", "cellIn", "(III)I"⟩ := ⟨⟨w_534, w_46, ⟨nh_X10.1, nh_X10.2, pd_X10_cellIn⟩, ⟨Nat.le_of_ble_eq_true rfl, Nat.le_of_ble_eq_true rfl⟩, rfl, rfl⟩, w_520, w_523, nh_X10, pd_X10_cellIn, w_521, ⟨_, _, _, w_534⟩, w_522, w_521⟩
theorem s_X4_see_74_X3 : SiteU M_X4_see M_X10_cellIn 74 3 0 0 RX3 RX10 ⟨"SmallestSpeed$Walker", "cellIn", "(III)I"⟩ := ⟨⟨w_534, w_46, ⟨nh_X10.1, nh_X10.2, pd_X10_cellIn⟩, ⟨Nat.le_of_ble_eq_true rfl, Nat.le_of_ble_eq_true rfl⟩, rfl, rfl⟩, w_520, w_523, nh_X10, pd_X10_cellIn, w_521, ⟨_, _, _, w_534⟩, w_531, w_521⟩
theorem pd_X5_cellIn : (parseMethodDescriptor M_X5_cellIn.1.desc).map (fun d => d.parameters.length) = some 3 := by decide +kernel
theorem s_X4_see_74_X5 : SiteU M_X4_see M_X5_cellIn 74 3 0 0 RX5 RX10 ⟨"SmallestSpeed$Walker", "cellIn", "(III)I"⟩ := ⟨⟨w_526, w_48, ⟨nh_X5.1, nh_X5.2, pd_X5_cellIn⟩, ⟨Nat.le_of_ble_eq_true rfl, Nat.le_of_ble_eq_true rfl⟩, rfl, rfl⟩, w_520, w_523, nh_X10, pd_X5_cellIn, w_521, ⟨_, _, _, w_534⟩, w_532, w_525⟩
theorem s_X4_see_74_X2 : SiteU M_X4_see M_X10_cellIn 74 3 0 0 RX2 RX10 ⟨"SmallestSpeed$Walker", "cellIn", "(III)I"⟩ := ⟨⟨w_534, w_46, ⟨nh_X10.1, nh_X10.2, pd_X10_cellIn⟩, ⟨Nat.le_of_ble_eq_true rfl, Nat.le_of_ble_eq_true rfl⟩, rfl, rfl⟩, w_520, w_523, nh_X10, pd_X10_cellIn, w_521, ⟨_, _, _, w_534⟩, w_530, w_521⟩
theorem s_X4_see_74_X9 : SiteU M_X4_see M_X10_cellIn 74 3 0 0 RX9 RX10 ⟨"SmallestSpeed$Walker", "cellIn", "(III)I"⟩ := ⟨⟨w_534, w_46, ⟨nh_X10.1, nh_X10.2, pd_X10_cellIn⟩, ⟨Nat.le_of_ble_eq_true rfl, Nat.le_of_ble_eq_true rfl⟩, rfl, rfl⟩, w_520, w_523, nh_X10, pd_X10_cellIn, w_521, ⟨_, _, _, w_534⟩, w_533, w_521⟩
theorem s_X4_see_74_X0 : SiteU M_X4_see M_X5_cellIn 74 3 0 0 RX0 RX10 ⟨"SmallestSpeed$Walker", "cellIn", "(III)I"⟩ := ⟨⟨w_526, w_48, ⟨nh_X5.1, nh_X5.2, pd_X5_cellIn⟩, ⟨Nat.le_of_ble_eq_true rfl, Nat.le_of_ble_eq_true rfl⟩, rfl, rfl⟩, w_520, w_523, nh_X10, pd_X5_cellIn, w_521, ⟨_, _, _, w_534⟩, w_524, w_525⟩
theorem s_X4_see_84_X10 : SiteU M_X4_see M_X10_highIn 84 2 0 0 RX10 RX10 ⟨"SmallestSpeed$Walker", "highIn", "(II)I"⟩ := ⟨⟨w_564, w_46, ⟨nh_X10.1, nh_X10.2, pd_X10_highIn⟩, ⟨Nat.le_of_ble_eq_true rfl, Nat.le_of_ble_eq_true rfl⟩, rfl, rfl⟩, w_536, w_539, nh_X10, pd_X10_highIn, w_537, ⟨_, _, _, w_564⟩, w_538, w_537⟩
theorem s_X4_see_84_X3 : SiteU M_X4_see M_X3_highIn 84 2 0 0 RX3 RX10 ⟨"SmallestSpeed$Walker", "highIn", "(II)I"⟩ := ⟨⟨w_553, w_47, ⟨nh_X3.1, nh_X3.2, pd_X3_highIn⟩, ⟨Nat.le_of_ble_eq_true rfl, Nat.le_of_ble_eq_true rfl⟩, rfl, rfl⟩, w_536, w_539, nh_X10, pd_X3_highIn, w_537, ⟨_, _, _, w_564⟩, w_551, w_552⟩
theorem s_X4_see_84_X5 : SiteU M_X4_see M_X10_highIn 84 2 0 0 RX5 RX10 ⟨"SmallestSpeed$Walker", "highIn", "(II)I"⟩ := ⟨⟨w_564, w_46, ⟨nh_X10.1, nh_X10.2, pd_X10_highIn⟩, ⟨Nat.le_of_ble_eq_true rfl, Nat.le_of_ble_eq_true rfl⟩, rfl, rfl⟩, w_536, w_539, nh_X10, pd_X10_highIn, w_537, ⟨_, _, _, w_564⟩, w_556, w_537⟩
theorem nh_X2 : (RX2 ≠ "java/lang/invoke/MethodHandle") ∧ (RX2 ≠ "java/lang/invoke/VarHandle") := ⟨by decide +kernel, by decide +kernel⟩
theorem pd_X2_highIn : (parseMethodDescriptor M_X2_highIn.1.desc).map (fun d => d.parameters.length) = some 2 := by decide +kernel
theorem s_X4_see_84_X2 : SiteU M_X4_see M_X2_highIn 84 2 0 0 RX2 RX10 ⟨"SmallestSpeed$Walker", "highIn", "(II)I"⟩ := ⟨⟨w_548, w_50, ⟨nh_X2.1, nh_X2.2, pd_X2_highIn⟩, ⟨Nat.le_of_ble_eq_true rfl, Nat.le_of_ble_eq_true rfl⟩, rfl, rfl⟩, w_536, w_539, nh_X10, pd_X2_highIn, w_537, ⟨_, _, _, w_564⟩, w_546, w_547⟩
theorem nh_X9 : (RX9 ≠ "java/lang/invoke/MethodHandle") ∧ (RX9 ≠ "java/lang/invoke/VarHandle") := ⟨by decide +kernel, by decide +kernel⟩
theorem pd_X9_highIn : (parseMethodDescriptor M_X9_highIn.1.desc).map (fun d => d.parameters.length) = some 2 := by decide +kernel
theorem s_X4_see_84_X9 : SiteU M_X4_see M_X9_highIn 84 2 0 0 RX9 RX10 ⟨"SmallestSpeed$Walker", "highIn", "(II)I"⟩ := ⟨⟨w_559, w_49, ⟨nh_X9.1, nh_X9.2, pd_X9_highIn⟩, ⟨Nat.le_of_ble_eq_true rfl, Nat.le_of_ble_eq_true rfl⟩, rfl, rfl⟩, w_536, w_539, nh_X10, pd_X9_highIn, w_537, ⟨_, _, _, w_564⟩, w_557, w_558⟩
theorem nh_X0 : (RX0 ≠ "java/lang/invoke/MethodHandle") ∧ (RX0 ≠ "java/lang/invoke/VarHandle") := ⟨by decide +kernel, by decide +kernel⟩
theorem pd_X0_highIn : (parseMethodDescriptor M_X0_highIn.1.desc).map (fun d => d.parameters.length) = some 2 := by decide +kernel
theorem s_X4_see_84_X0 : SiteU M_X4_see M_X0_highIn 84 2 0 0 RX0 RX10 ⟨"SmallestSpeed$Walker", "highIn", "(II)I"⟩ := ⟨⟨w_542, w_51, ⟨nh_X0.1, nh_X0.2, pd_X0_highIn⟩, ⟨Nat.le_of_ble_eq_true rfl, Nat.le_of_ble_eq_true rfl⟩, rfl, rfl⟩, w_536, w_539, nh_X10, pd_X0_highIn, w_537, ⟨_, _, _, w_564⟩, w_540, w_541⟩
theorem pd_X3_init : (parseMethodDescriptor M_X3_init.1.desc).map (fun d => d.parameters.length) = some 0 := by decide +kernel
theorem s_X9_init_1 : SiteIN M_X9_init M_X3_init 1 0 0 0 "SmallestSpeed" := ⟨⟨w_197, w_47, ⟨nh_X3.1, nh_X3.2, pd_X3_init⟩, ⟨Nat.le_of_ble_eq_true rfl, Nat.le_of_ble_eq_true rfl⟩, rfl, rfl⟩, rfl, by decide +kernel, w_196, List.mem_of_getElem? (i := 9) (by decide +kernel)⟩
theorem pd_J0_isLatin1_aae02 : (parseMethodDescriptor M_J0_isLatin1_aae02.1.desc).map (fun d => d.parameters.length) = some 0 := by decide +kernel
theorem s_J0_charAt_5068e_492 : SiteV M_J0_charAt_5068e M_J0_isLatin1_aae02 492 0 0 0 := ⟨⟨w_454, w_56, ⟨nh_J0.1, nh_J0.2, pd_J0_isLatin1_aae02⟩, ⟨Nat.le_of_ble_eq_true rfl, Nat.le_of_ble_eq_true rfl⟩, rfl, rfl⟩, w_451, w_452, w_453⟩
theorem nh_J1 : (RJ1 ≠ "java/lang/invoke/MethodHandle") ∧ (RJ1 ≠ "java/lang/invoke/VarHandle") := ⟨by decide +kernel, by decide +kernel⟩
theorem pd_J1_charAt_3b067 : (parseMethodDescriptor M_J1_charAt_3b067.1.desc).map (fun d => d.parameters.length) = some 2 := by decide +kernel
theorem s_J0_charAt_5068e_495 : SiteS M_J0_charAt_5068e M_J1_charAt_3b067 495 2 0 0 := ⟨⟨w_457, w_57, ⟨nh_J1.1, nh_J1.2, pd_J1_charAt_3b067⟩, ⟨Nat.le_of_ble_eq_true rfl, Nat.le_of_ble_eq_true rfl⟩, rfl, rfl⟩, w_455, w_456⟩
theorem f_X11_35 : FSite RX11 35 11 7 true true (.object "SmallestSpeed$Limits") := ⟨RX11, TX11, 15, tyX11, rfl, i_X11, by decide, w_292, rfl, by decide +kernel, tyX11_ok, nmX11, fun _ => rfl⟩
theorem s_X11_limit_78 : SiteS M_X11_limit M_X11_isCell 78 1 0 0 := ⟨⟨w_360, w_42, ⟨nh_X11.1, nh_X11.2, pd_X11_isCell⟩, ⟨Nat.le_of_ble_eq_true rfl, Nat.le_of_ble_eq_true rfl⟩, rfl, rfl⟩, w_358, w_359⟩
theorem s_X11_limit_128 : SiteS M_X11_limit M_X11_isMinute 128 1 0 0 := ⟨⟨w_511, w_42, ⟨nh_X11.1, nh_X11.2, pd_X11_isMinute⟩, ⟨Nat.le_of_ble_eq_true rfl, Nat.le_of_ble_eq_true rfl⟩, rfl, rfl⟩, w_509, w_510⟩
theorem s_X11_limit_150 : SiteS M_X11_limit M_X11_isZeroOrOne 150 1 0 0 := ⟨⟨w_571, w_42, ⟨nh_X11.1, nh_X11.2, pd_X11_isZeroOrOne⟩, ⟨Nat.le_of_ble_eq_true rfl, Nat.le_of_ble_eq_true rfl⟩, rfl, rfl⟩, w_569, w_570⟩
theorem s_X11_limit_61 : SiteV M_X11_limit M_X11_refuseBad 61 1 0 0 := ⟨⟨w_341, w_42, ⟨nh_X11.1, nh_X11.2, pd_X11_refuseBad⟩, ⟨Nat.le_of_ble_eq_true rfl, Nat.le_of_ble_eq_true rfl⟩, rfl, rfl⟩, w_338, w_340, w_0⟩
theorem pd_X4_see : (parseMethodDescriptor M_X4_see.1.desc).map (fun d => d.parameters.length) = some 2 := by decide +kernel
theorem s_X11_limit_131 : SiteV M_X11_limit M_X4_see 131 2 0 0 := ⟨⟨w_515, w_45, ⟨nh_X4.1, nh_X4.2, pd_X4_see⟩, ⟨Nat.le_of_ble_eq_true rfl, Nat.le_of_ble_eq_true rfl⟩, rfl, rfl⟩, w_512, w_513, w_514⟩
theorem s_X11_limit_153 : SiteV M_X11_limit M_X6_everyChild 153 0 0 0 := ⟨⟨w_575, w_43, ⟨nh_X6.1, nh_X6.2, pd_X6_everyChild⟩, ⟨Nat.le_of_ble_eq_true rfl, Nat.le_of_ble_eq_true rfl⟩, rfl, rfl⟩, w_572, w_573, w_574⟩
theorem pd_X4_limitIn : (parseMethodDescriptor M_X4_limitIn.1.desc).map (fun d => d.parameters.length) = some 3 := by decide +kernel
theorem s_X11_limit_156 : SiteV M_X11_limit M_X4_limitIn 156 3 0 0 := ⟨⟨w_579, w_45, ⟨nh_X4.1, nh_X4.2, pd_X4_limitIn⟩, ⟨Nat.le_of_ble_eq_true rfl, Nat.le_of_ble_eq_true rfl⟩, rfl, rfl⟩, w_576, w_577, w_578⟩
theorem pd_X4_nearestChild : (parseMethodDescriptor M_X4_nearestChild.1.desc).map (fun d => d.parameters.length) = some 2 := by decide +kernel
theorem s_X11_limit_160 : SiteV M_X11_limit M_X4_nearestChild 160 2 0 0 := ⟨⟨w_603, w_45, ⟨nh_X4.1, nh_X4.2, pd_X4_nearestChild⟩, ⟨Nat.le_of_ble_eq_true rfl, Nat.le_of_ble_eq_true rfl⟩, rfl, rfl⟩, w_600, w_601, w_602⟩
theorem f_X11_135 : FSite RX11 135 6 3 true false (.array .int) := ⟨RX6, TX6, 18, tyX6, rfl, i_X6, by decide, w_91, rfl, by decide +kernel, tyX6_ok, nmX6, fun h => by cases h⟩
theorem f_X11_138 : FSite RX11 138 6 4 true false (.array .int) := ⟨RX6, TX6, 18, tyX6, rfl, i_X6, by decide, w_94, rfl, by decide +kernel, tyX6_ok, nmX6, fun h => by cases h⟩
theorem f_X11_141 : FSite RX11 141 4 6 true false (.array .int) := ⟨RX4, TX4, 8, tyX4, rfl, i_X4, by decide, w_235, rfl, by decide +kernel, tyX4_ok, nmX4, fun h => by cases h⟩
theorem f_X11_144 : FSite RX11 144 4 7 true false (.array .int) := ⟨RX4, TX4, 8, tyX4, rfl, i_X4, by decide, w_237, rfl, by decide +kernel, tyX4_ok, nmX4, fun h => by cases h⟩
theorem f_X11_147 : FSite RX11 147 6 6 true false (.array .int) := ⟨RX6, TX6, 18, tyX6, rfl, i_X6, by decide, w_101, rfl, by decide +kernel, tyX6_ok, nmX6, fun h => by cases h⟩
theorem s_X11_of_90 : SiteV M_X11_of M_X11_isChild 90 1 0 0 := ⟨⟨w_376, w_42, ⟨nh_X11.1, nh_X11.2, pd_X11_isChild⟩, ⟨Nat.le_of_ble_eq_true rfl, Nat.le_of_ble_eq_true rfl⟩, rfl, rfl⟩, w_373, w_375, w_2⟩
theorem s_X11_of_128 : SiteS M_X11_of M_X11_isMinute 128 1 0 0 := ⟨⟨w_511, w_42, ⟨nh_X11.1, nh_X11.2, pd_X11_isMinute⟩, ⟨Nat.le_of_ble_eq_true rfl, Nat.le_of_ble_eq_true rfl⟩, rfl, rfl⟩, w_509, w_510⟩
theorem s_X11_of_61 : SiteV M_X11_of M_X11_refuseBad 61 1 0 0 := ⟨⟨w_341, w_42, ⟨nh_X11.1, nh_X11.2, pd_X11_refuseBad⟩, ⟨Nat.le_of_ble_eq_true rfl, Nat.le_of_ble_eq_true rfl⟩, rfl, rfl⟩, w_338, w_340, w_0⟩
theorem s_X11_of_131 : SiteV M_X11_of M_X4_see 131 2 0 0 := ⟨⟨w_515, w_45, ⟨nh_X4.1, nh_X4.2, pd_X4_see⟩, ⟨Nat.le_of_ble_eq_true rfl, Nat.le_of_ble_eq_true rfl⟩, rfl, rfl⟩, w_512, w_513, w_514⟩
theorem pd_X12_nearest : (parseMethodDescriptor M_X12_nearest.1.desc).map (fun d => d.parameters.length) = some 3 := by decide +kernel
theorem s_X12_limitAt_143 : SiteV M_X12_limitAt M_X12_nearest 143 3 0 0 := ⟨⟨w_1017, w_54, ⟨nh_X12.1, nh_X12.2, pd_X12_nearest⟩, ⟨Nat.le_of_ble_eq_true rfl, Nat.le_of_ble_eq_true rfl⟩, rfl, rfl⟩, w_1014, w_1016, w_20⟩
theorem pd_X12_lowest : (parseMethodDescriptor M_X12_lowest.1.desc).map (fun d => d.parameters.length) = some 2 := by decide +kernel
theorem s_X12_limitAt_146 : SiteV M_X12_limitAt M_X12_lowest 146 2 0 0 := ⟨⟨w_1029, w_54, ⟨nh_X12.1, nh_X12.2, pd_X12_lowest⟩, ⟨Nat.le_of_ble_eq_true rfl, Nat.le_of_ble_eq_true rfl⟩, rfl, rfl⟩, w_1026, w_1028, w_22⟩
theorem s_X12_limitAt_140 : SiteV M_X12_limitAt M_X12_countsOf 140 2 0 0 := ⟨⟨w_999, w_54, ⟨nh_X12.1, nh_X12.2, pd_X12_countsOf⟩, ⟨Nat.le_of_ble_eq_true rfl, Nat.le_of_ble_eq_true rfl⟩, rfl, rfl⟩, w_996, w_998, w_18⟩
theorem s_X12_takes_65 : SiteS M_X12_takes M_X12_in 65 3 0 0 := ⟨⟨w_904, w_54, ⟨nh_X12.1, nh_X12.2, pd_X12_in⟩, ⟨Nat.le_of_ble_eq_true rfl, Nat.le_of_ble_eq_true rfl⟩, rfl, rfl⟩, w_902, w_903⟩
theorem pd_X12_goBehind : (parseMethodDescriptor M_X12_goBehind.1.desc).map (fun d => d.parameters.length) = some 0 := by decide +kernel
theorem s_X12_takes_257 : SiteV M_X12_takes M_X12_goBehind 257 0 0 0 := ⟨⟨w_1188, w_54, ⟨nh_X12.1, nh_X12.2, pd_X12_goBehind⟩, ⟨Nat.le_of_ble_eq_true rfl, Nat.le_of_ble_eq_true rfl⟩, rfl, rfl⟩, w_1185, w_1187, w_36⟩
theorem f_X1_12 : FSite RX1 12 1 0 true true (.object "SmallestSpeed$Limits") := ⟨RX1, TX1, 2, tyX1, rfl, i_X1, by decide, w_263, rfl, by decide +kernel, tyX1_ok, nmX1, fun _ => rfl⟩
theorem s_X1_cellOfDrive_22 : SiteV M_X1_cellOfDrive M_X4_see 22 2 0 0 := ⟨⟨w_515, w_45, ⟨nh_X4.1, nh_X4.2, pd_X4_see⟩, ⟨Nat.le_of_ble_eq_true rfl, Nat.le_of_ble_eq_true rfl⟩, rfl, rfl⟩, w_613, w_513, w_514⟩
theorem s_X1_cellOfDrive_26 : SiteV M_X1_cellOfDrive M_X6_everyChild 26 0 0 0 := ⟨⟨w_575, w_43, ⟨nh_X6.1, nh_X6.2, pd_X6_everyChild⟩, ⟨Nat.le_of_ble_eq_true rfl, Nat.le_of_ble_eq_true rfl⟩, rfl, rfl⟩, w_614, w_573, w_574⟩
theorem s_X1_cellOfDrive_32 : SiteV M_X1_cellOfDrive M_X4_limitIn 32 3 0 0 := ⟨⟨w_579, w_45, ⟨nh_X4.1, nh_X4.2, pd_X4_limitIn⟩, ⟨Nat.le_of_ble_eq_true rfl, Nat.le_of_ble_eq_true rfl⟩, rfl, rfl⟩, w_615, w_577, w_578⟩
theorem s_X1_cellOfDrive_36 : SiteS M_X1_cellOfDrive M_J9_min_7cf53 36 2 0 0 := ⟨⟨w_529, w_60, ⟨nh_J9.1, nh_J9.2, pd_J9_min_7cf53⟩, ⟨Nat.le_of_ble_eq_true rfl, Nat.le_of_ble_eq_true rfl⟩, rfl, rfl⟩, w_616, w_528⟩
theorem f_X1_48 : FSite RX1 48 6 8 false false .int := ⟨RX6, TX6, 18, tyX6, rfl, i_X6, by decide, w_106, rfl, by decide +kernel, tyX6_ok, nmX6, fun h => by cases h⟩
theorem f_X1_52 : FSite RX1 52 6 9 true false (.array .int) := ⟨RX6, TX6, 18, tyX6, rfl, i_X6, by decide, w_109, rfl, by decide +kernel, tyX6_ok, nmX6, fun h => by cases h⟩
theorem s_X1_driveBySpeeds_22 : SiteV M_X1_driveBySpeeds M_X4_see 22 2 0 0 := ⟨⟨w_515, w_45, ⟨nh_X4.1, nh_X4.2, pd_X4_see⟩, ⟨Nat.le_of_ble_eq_true rfl, Nat.le_of_ble_eq_true rfl⟩, rfl, rfl⟩, w_613, w_513, w_514⟩
theorem s_X1_driveBySpeeds_26 : SiteV M_X1_driveBySpeeds M_X6_everyChild 26 0 0 0 := ⟨⟨w_575, w_43, ⟨nh_X6.1, nh_X6.2, pd_X6_everyChild⟩, ⟨Nat.le_of_ble_eq_true rfl, Nat.le_of_ble_eq_true rfl⟩, rfl, rfl⟩, w_614, w_573, w_574⟩
theorem s_X1_driveBySpeeds_32 : SiteV M_X1_driveBySpeeds M_X4_limitIn 32 3 0 0 := ⟨⟨w_579, w_45, ⟨nh_X4.1, nh_X4.2, pd_X4_limitIn⟩, ⟨Nat.le_of_ble_eq_true rfl, Nat.le_of_ble_eq_true rfl⟩, rfl, rfl⟩, w_615, w_577, w_578⟩
theorem s_X1_driveBySpeeds_36 : SiteS M_X1_driveBySpeeds M_J9_min_7cf53 36 2 0 0 := ⟨⟨w_529, w_60, ⟨nh_J9.1, nh_J9.2, pd_J9_min_7cf53⟩, ⟨Nat.le_of_ble_eq_true rfl, Nat.le_of_ble_eq_true rfl⟩, rfl, rfl⟩, w_616, w_528⟩
theorem pd_X4_outBetween : (parseMethodDescriptor M_X4_outBetween.1.desc).map (fun d => d.parameters.length) = some 3 := by decide +kernel
theorem s_X1_driveBySpeeds_55 : SiteV M_X1_driveBySpeeds M_X4_outBetween 55 3 0 0 := ⟨⟨w_669, w_45, ⟨nh_X4.1, nh_X4.2, pd_X4_outBetween⟩, ⟨Nat.le_of_ble_eq_true rfl, Nat.le_of_ble_eq_true rfl⟩, rfl, rfl⟩, w_666, w_667, w_668⟩
theorem s_X1_endOfDrive_22 : SiteV M_X1_endOfDrive M_X4_see 22 2 0 0 := ⟨⟨w_515, w_45, ⟨nh_X4.1, nh_X4.2, pd_X4_see⟩, ⟨Nat.le_of_ble_eq_true rfl, Nat.le_of_ble_eq_true rfl⟩, rfl, rfl⟩, w_613, w_513, w_514⟩
theorem s_X1_endOfDrive_32 : SiteV M_X1_endOfDrive M_X4_limitIn 32 3 0 0 := ⟨⟨w_579, w_45, ⟨nh_X4.1, nh_X4.2, pd_X4_limitIn⟩, ⟨Nat.le_of_ble_eq_true rfl, Nat.le_of_ble_eq_true rfl⟩, rfl, rfl⟩, w_615, w_577, w_578⟩
theorem s_X1_soonestEnd_22 : SiteV M_X1_soonestEnd M_X4_see 22 2 0 0 := ⟨⟨w_515, w_45, ⟨nh_X4.1, nh_X4.2, pd_X4_see⟩, ⟨Nat.le_of_ble_eq_true rfl, Nat.le_of_ble_eq_true rfl⟩, rfl, rfl⟩, w_613, w_513, w_514⟩
theorem s_X1_soonestEnd_42 : SiteS M_X1_soonestEnd M_J9_max_7cf53 42 2 0 0 := ⟨⟨w_563, w_60, ⟨nh_J9.1, nh_J9.2, pd_J9_max_7cf53⟩, ⟨Nat.le_of_ble_eq_true rfl, Nat.le_of_ble_eq_true rfl⟩, rfl, rfl⟩, w_636, w_562⟩
theorem s_X1_soonestEnd_32 : SiteV M_X1_soonestEnd M_X4_limitIn 32 3 0 0 := ⟨⟨w_579, w_45, ⟨nh_X4.1, nh_X4.2, pd_X4_limitIn⟩, ⟨Nat.le_of_ble_eq_true rfl, Nat.le_of_ble_eq_true rfl⟩, rfl, rfl⟩, w_615, w_577, w_578⟩
theorem n_X4_9 : NSite RX4 9 10 0 [] := ⟨RX10, TX10, tyX10, rfl, i_X10, tyX10_ok, w_186, w_187, w_46, by decide +kernel, by decide +kernel⟩
theorem n_X4_18 : NSite RX4 18 3 0 [] := ⟨RX3, TX3, tyX3, rfl, i_X3, tyX3_ok, w_193, w_194, w_47, by decide +kernel, by decide +kernel⟩
theorem n_X4_24 : NSite RX4 24 5 0 [] := ⟨RX5, TX5, tyX5, rfl, i_X5, tyX5_ok, w_200, w_201, w_48, by decide +kernel, by decide +kernel⟩
theorem n_X4_30 : NSite RX4 30 9 0 [] := ⟨RX9, TX9, tyX9, rfl, i_X9, tyX9_ok, w_207, w_208, w_49, by decide +kernel, by decide +kernel⟩
theorem n_X4_36 : NSite RX4 36 2 0 [] := ⟨RX2, TX2, tyX2, rfl, i_X2, tyX2_ok, w_214, w_215, w_50, by decide +kernel, by decide +kernel⟩
theorem n_X4_42 : NSite RX4 42 0 0 [] := ⟨RX0, TX0, tyX0, rfl, i_X0, tyX0_ok, w_221, w_222, w_51, by decide +kernel, by decide +kernel⟩
theorem ob_X4_3 : OSite RX4 3 := ⟨w_185, w_69, w_70⟩
theorem s_X4_init_11 : SiteIN M_X4_init M_X10_init 11 0 0 0 "SmallestSpeed" := ⟨⟨w_190, w_46, ⟨nh_X10.1, nh_X10.2, pd_X10_init⟩, ⟨Nat.le_of_ble_eq_true rfl, Nat.le_of_ble_eq_true rfl⟩, rfl, rfl⟩, rfl, by decide +kernel, w_189, List.mem_of_getElem? (i := 3) (by decide +kernel)⟩
theorem s_X4_init_20 : SiteIN M_X4_init M_X3_init 20 0 0 0 "SmallestSpeed" := ⟨⟨w_197, w_47, ⟨nh_X3.1, nh_X3.2, pd_X3_init⟩, ⟨Nat.le_of_ble_eq_true rfl, Nat.le_of_ble_eq_true rfl⟩, rfl, rfl⟩, rfl, by decide +kernel, w_196, List.mem_of_getElem? (i := 4) (by decide +kernel)⟩
theorem s_X4_init_26 : SiteIN M_X4_init M_X5_init 26 0 0 0 "SmallestSpeed" := ⟨⟨w_204, w_48, ⟨nh_X5.1, nh_X5.2, pd_X5_init⟩, ⟨Nat.le_of_ble_eq_true rfl, Nat.le_of_ble_eq_true rfl⟩, rfl, rfl⟩, rfl, by decide +kernel, w_203, List.mem_of_getElem? (i := 6) (by decide +kernel)⟩
theorem pd_X9_init : (parseMethodDescriptor M_X9_init.1.desc).map (fun d => d.parameters.length) = some 0 := by decide +kernel
theorem s_X4_init_32 : SiteIN M_X4_init M_X9_init 32 0 0 0 "SmallestSpeed" := ⟨⟨w_211, w_49, ⟨nh_X9.1, nh_X9.2, pd_X9_init⟩, ⟨Nat.le_of_ble_eq_true rfl, Nat.le_of_ble_eq_true rfl⟩, rfl, rfl⟩, rfl, by decide +kernel, w_210, List.mem_of_getElem? (i := 8) (by decide +kernel)⟩
theorem pd_X2_init : (parseMethodDescriptor M_X2_init.1.desc).map (fun d => d.parameters.length) = some 0 := by decide +kernel
theorem s_X4_init_38 : SiteIN M_X4_init M_X2_init 38 0 0 0 "SmallestSpeed" := ⟨⟨w_218, w_50, ⟨nh_X2.1, nh_X2.2, pd_X2_init⟩, ⟨Nat.le_of_ble_eq_true rfl, Nat.le_of_ble_eq_true rfl⟩, rfl, rfl⟩, rfl, by decide +kernel, w_217, List.mem_of_getElem? (i := 10) (by decide +kernel)⟩
theorem pd_X0_init : (parseMethodDescriptor M_X0_init.1.desc).map (fun d => d.parameters.length) = some 0 := by decide +kernel
theorem s_X4_init_44 : SiteIN M_X4_init M_X0_init 44 0 0 0 "SmallestSpeed" := ⟨⟨w_225, w_51, ⟨nh_X0.1, nh_X0.2, pd_X0_init⟩, ⟨Nat.le_of_ble_eq_true rfl, Nat.le_of_ble_eq_true rfl⟩, rfl, rfl⟩, rfl, by decide +kernel, w_224, List.mem_of_getElem? (i := 12) (by decide +kernel)⟩
theorem f_X8_22 : FSite RX8 22 6 10 false false .int := ⟨RX6, TX6, 18, tyX6, rfl, i_X6, by decide, w_110, rfl, by decide +kernel, tyX6_ok, nmX6, fun h => by cases h⟩
theorem f_X8_12 : FSite RX8 12 8 0 true true (.object "SmallestSpeed$Limits") := ⟨RX8, TX8, 2, tyX8, rfl, i_X8, by decide, w_278, rfl, by decide +kernel, tyX8_ok, nmX8, fun _ => rfl⟩
theorem f_X8_28 : FSite RX8 28 6 12 true false (.array .int) := ⟨RX6, TX6, 18, tyX6, rfl, i_X6, by decide, w_116, rfl, by decide +kernel, tyX6_ok, nmX6, fun h => by cases h⟩
theorem f_X8_35 : FSite RX8 35 6 11 true false (.array .int) := ⟨RX6, TX6, 18, tyX6, rfl, i_X6, by decide, w_114, rfl, by decide +kernel, tyX6_ok, nmX6, fun h => by cases h⟩
theorem f_X8_42 : FSite RX8 42 6 13 true false (.array .int) := ⟨RX6, TX6, 18, tyX6, rfl, i_X6, by decide, w_118, rfl, by decide +kernel, tyX6_ok, nmX6, fun h => by cases h⟩
theorem s_X8_isAsRead_31 : SiteV M_X8_isAsRead M_X4_see 31 2 0 0 := ⟨⟨w_515, w_45, ⟨nh_X4.1, nh_X4.2, pd_X4_see⟩, ⟨Nat.le_of_ble_eq_true rfl, Nat.le_of_ble_eq_true rfl⟩, rfl, rfl⟩, w_734, w_513, w_514⟩
theorem s_X8_isAsRead_38 : SiteV M_X8_isAsRead M_X4_limitIn 38 3 0 0 := ⟨⟨w_579, w_45, ⟨nh_X4.1, nh_X4.2, pd_X4_limitIn⟩, ⟨Nat.le_of_ble_eq_true rfl, Nat.le_of_ble_eq_true rfl⟩, rfl, rfl⟩, w_735, w_577, w_578⟩
theorem f_X8_18 : FSite RX8 18 8 1 true true (.array .int) := ⟨RX8, TX8, 2, tyX8, rfl, i_X8, by decide, w_279, rfl, by decide +kernel, tyX8_ok, nmX8, fun _ => rfl⟩
theorem s_X8_mostAlike_45 : SiteV M_X8_mostAlike M_X6_everyChild 45 0 0 0 := ⟨⟨w_575, w_43, ⟨nh_X6.1, nh_X6.2, pd_X6_everyChild⟩, ⟨Nat.le_of_ble_eq_true rfl, Nat.le_of_ble_eq_true rfl⟩, rfl, rfl⟩, w_729, w_573, w_574⟩
theorem s_X8_mostAlike_38 : SiteV M_X8_mostAlike M_X4_limitIn 38 3 0 0 := ⟨⟨w_579, w_45, ⟨nh_X4.1, nh_X4.2, pd_X4_limitIn⟩, ⟨Nat.le_of_ble_eq_true rfl, Nat.le_of_ble_eq_true rfl⟩, rfl, rfl⟩, w_735, w_577, w_578⟩
theorem s_X8_mostAlike_63 : SiteS M_X8_mostAlike M_J9_max_7cf53 63 2 0 0 := ⟨⟨w_563, w_60, ⟨nh_J9.1, nh_J9.2, pd_J9_max_7cf53⟩, ⟨Nat.le_of_ble_eq_true rfl, Nat.le_of_ble_eq_true rfl⟩, rfl, rfl⟩, w_759, w_562⟩
theorem f_X11_42 : FSite RX11 42 11 8 true true (.object "SmallestSpeed$Drives") := ⟨RX11, TX11, 15, tyX11, rfl, i_X11, by decide, w_293, rfl, by decide +kernel, tyX11_ok, nmX11, fun _ => rfl⟩
theorem s_X11_fined_128 : SiteS M_X11_fined M_X11_isMinute 128 1 0 0 := ⟨⟨w_511, w_42, ⟨nh_X11.1, nh_X11.2, pd_X11_isMinute⟩, ⟨Nat.le_of_ble_eq_true rfl, Nat.le_of_ble_eq_true rfl⟩, rfl, rfl⟩, w_509, w_510⟩
theorem s_X11_fined_57 : SiteS M_X11_fined M_X11_within 57 3 0 0 := ⟨⟨w_337, w_42, ⟨nh_X11.1, nh_X11.2, pd_X11_within⟩, ⟨Nat.le_of_ble_eq_true rfl, Nat.le_of_ble_eq_true rfl⟩, rfl, rfl⟩, w_335, w_336⟩
theorem s_X11_fined_61 : SiteV M_X11_fined M_X11_refuseBad 61 1 0 0 := ⟨⟨w_341, w_42, ⟨nh_X11.1, nh_X11.2, pd_X11_refuseBad⟩, ⟨Nat.le_of_ble_eq_true rfl, Nat.le_of_ble_eq_true rfl⟩, rfl, rfl⟩, w_338, w_340, w_0⟩
theorem pd_X1_driveBySpeeds : (parseMethodDescriptor M_X1_driveBySpeeds.1.desc).map (fun d => d.parameters.length) = some 3 := by decide +kernel
theorem s_X11_fined_185 : SiteV M_X11_fined M_X1_driveBySpeeds 185 3 0 0 := ⟨⟨w_665, w_52, ⟨nh_X1.1, nh_X1.2, pd_X1_driveBySpeeds⟩, ⟨Nat.le_of_ble_eq_true rfl, Nat.le_of_ble_eq_true rfl⟩, rfl, rfl⟩, w_662, w_663, w_664⟩
theorem s_X11_soonest_128 : SiteS M_X11_soonest M_X11_isMinute 128 1 0 0 := ⟨⟨w_511, w_42, ⟨nh_X11.1, nh_X11.2, pd_X11_isMinute⟩, ⟨Nat.le_of_ble_eq_true rfl, Nat.le_of_ble_eq_true rfl⟩, rfl, rfl⟩, w_509, w_510⟩
theorem s_X11_soonest_61 : SiteV M_X11_soonest M_X11_refuseBad 61 1 0 0 := ⟨⟨w_341, w_42, ⟨nh_X11.1, nh_X11.2, pd_X11_refuseBad⟩, ⟨Nat.le_of_ble_eq_true rfl, Nat.le_of_ble_eq_true rfl⟩, rfl, rfl⟩, w_338, w_340, w_0⟩
theorem s_X11_soonest_153 : SiteV M_X11_soonest M_X6_everyChild 153 0 0 0 := ⟨⟨w_575, w_43, ⟨nh_X6.1, nh_X6.2, pd_X6_everyChild⟩, ⟨Nat.le_of_ble_eq_true rfl, Nat.le_of_ble_eq_true rfl⟩, rfl, rfl⟩, w_572, w_573, w_574⟩
theorem pd_X1_soonestEnd : (parseMethodDescriptor M_X1_soonestEnd.1.desc).map (fun d => d.parameters.length) = some 3 := by decide +kernel
theorem s_X11_soonest_173 : SiteV M_X11_soonest M_X1_soonestEnd 173 3 0 0 := ⟨⟨w_635, w_52, ⟨nh_X1.1, nh_X1.2, pd_X1_soonestEnd⟩, ⟨Nat.le_of_ble_eq_true rfl, Nat.le_of_ble_eq_true rfl⟩, rfl, rfl⟩, w_632, w_633, w_634⟩
theorem pd_X11_noneIfNever : (parseMethodDescriptor M_X11_noneIfNever.1.desc).map (fun d => d.parameters.length) = some 1 := by decide +kernel
theorem s_X11_soonest_170 : SiteS M_X11_soonest M_X11_noneIfNever 170 1 0 0 := ⟨⟨w_627, w_42, ⟨nh_X11.1, nh_X11.2, pd_X11_noneIfNever⟩, ⟨Nat.le_of_ble_eq_true rfl, Nat.le_of_ble_eq_true rfl⟩, rfl, rfl⟩, w_625, w_626⟩
theorem s_X11_there_128 : SiteS M_X11_there M_X11_isMinute 128 1 0 0 := ⟨⟨w_511, w_42, ⟨nh_X11.1, nh_X11.2, pd_X11_isMinute⟩, ⟨Nat.le_of_ble_eq_true rfl, Nat.le_of_ble_eq_true rfl⟩, rfl, rfl⟩, w_509, w_510⟩
theorem s_X11_there_61 : SiteV M_X11_there M_X11_refuseBad 61 1 0 0 := ⟨⟨w_341, w_42, ⟨nh_X11.1, nh_X11.2, pd_X11_refuseBad⟩, ⟨Nat.le_of_ble_eq_true rfl, Nat.le_of_ble_eq_true rfl⟩, rfl, rfl⟩, w_338, w_340, w_0⟩
theorem s_X11_there_153 : SiteV M_X11_there M_X6_everyChild 153 0 0 0 := ⟨⟨w_575, w_43, ⟨nh_X6.1, nh_X6.2, pd_X6_everyChild⟩, ⟨Nat.le_of_ble_eq_true rfl, Nat.le_of_ble_eq_true rfl⟩, rfl, rfl⟩, w_572, w_573, w_574⟩
theorem pd_X1_endOfDrive : (parseMethodDescriptor M_X1_endOfDrive.1.desc).map (fun d => d.parameters.length) = some 3 := by decide +kernel
theorem s_X11_there_167 : SiteV M_X11_there M_X1_endOfDrive 167 3 0 0 := ⟨⟨w_624, w_52, ⟨nh_X1.1, nh_X1.2, pd_X1_endOfDrive⟩, ⟨Nat.le_of_ble_eq_true rfl, Nat.le_of_ble_eq_true rfl⟩, rfl, rfl⟩, w_621, w_622, w_623⟩
theorem s_X11_there_170 : SiteS M_X11_there M_X11_noneIfNever 170 1 0 0 := ⟨⟨w_627, w_42, ⟨nh_X11.1, nh_X11.2, pd_X11_noneIfNever⟩, ⟨Nat.le_of_ble_eq_true rfl, Nat.le_of_ble_eq_true rfl⟩, rfl, rfl⟩, w_625, w_626⟩
theorem s_X11_where_128 : SiteS M_X11_where M_X11_isMinute 128 1 0 0 := ⟨⟨w_511, w_42, ⟨nh_X11.1, nh_X11.2, pd_X11_isMinute⟩, ⟨Nat.le_of_ble_eq_true rfl, Nat.le_of_ble_eq_true rfl⟩, rfl, rfl⟩, w_509, w_510⟩
theorem s_X11_where_57 : SiteS M_X11_where M_X11_within 57 3 0 0 := ⟨⟨w_337, w_42, ⟨nh_X11.1, nh_X11.2, pd_X11_within⟩, ⟨Nat.le_of_ble_eq_true rfl, Nat.le_of_ble_eq_true rfl⟩, rfl, rfl⟩, w_335, w_336⟩
theorem s_X11_where_61 : SiteV M_X11_where M_X11_refuseBad 61 1 0 0 := ⟨⟨w_341, w_42, ⟨nh_X11.1, nh_X11.2, pd_X11_refuseBad⟩, ⟨Nat.le_of_ble_eq_true rfl, Nat.le_of_ble_eq_true rfl⟩, rfl, rfl⟩, w_338, w_340, w_0⟩
theorem pd_X1_cellOfDrive : (parseMethodDescriptor M_X1_cellOfDrive.1.desc).map (fun d => d.parameters.length) = some 3 := by decide +kernel
theorem s_X11_where_164 : SiteV M_X11_where M_X1_cellOfDrive 164 3 0 0 := ⟨⟨w_612, w_52, ⟨nh_X1.1, nh_X1.2, pd_X1_cellOfDrive⟩, ⟨Nat.le_of_ble_eq_true rfl, Nat.le_of_ble_eq_true rfl⟩, rfl, rfl⟩, w_609, w_610, w_611⟩
theorem pd_X12_limitAt : (parseMethodDescriptor M_X12_limitAt.1.desc).map (fun d => d.parameters.length) = some 2 := by decide +kernel
theorem s_X12_areSo_159 : SiteV M_X12_areSo M_X12_limitAt 159 2 0 0 := ⟨⟨w_1013, w_54, ⟨nh_X12.1, nh_X12.2, pd_X12_limitAt⟩, ⟨Nat.le_of_ble_eq_true rfl, Nat.le_of_ble_eq_true rfl⟩, rfl, rfl⟩, w_1010, w_1012, w_19⟩
theorem s_X12_fined_149 : SiteS M_X12_fined M_X12_isMinute 149 1 0 0 := ⟨⟨w_978, w_54, ⟨nh_X12.1, nh_X12.2, pd_X12_isMinute⟩, ⟨Nat.le_of_ble_eq_true rfl, Nat.le_of_ble_eq_true rfl⟩, rfl, rfl⟩, w_976, w_977⟩
theorem s_X12_fined_65 : SiteS M_X12_fined M_X12_in 65 3 0 0 := ⟨⟨w_904, w_54, ⟨nh_X12.1, nh_X12.2, pd_X12_in⟩, ⟨Nat.le_of_ble_eq_true rfl, Nat.le_of_ble_eq_true rfl⟩, rfl, rfl⟩, w_902, w_903⟩
theorem s_X12_fined_75 : SiteV M_X12_fined M_X12_bad 75 1 0 0 := ⟨⟨w_909, w_54, ⟨nh_X12.1, nh_X12.2, pd_X12_bad⟩, ⟨Nat.le_of_ble_eq_true rfl, Nat.le_of_ble_eq_true rfl⟩, rfl, rfl⟩, w_906, w_908, w_6⟩
theorem s_X12_fined_152 : SiteV M_X12_fined M_X12_all 152 0 0 0 := ⟨⟨w_983, w_54, ⟨nh_X12.1, nh_X12.2, pd_X12_all⟩, ⟨Nat.le_of_ble_eq_true rfl, Nat.le_of_ble_eq_true rfl⟩, rfl, rfl⟩, w_980, w_982, w_14⟩
theorem s_X12_fined_155 : SiteV M_X12_fined M_X12_layHand 155 1 0 0 := ⟨⟨w_987, w_54, ⟨nh_X12.1, nh_X12.2, pd_X12_layHand⟩, ⟨Nat.le_of_ble_eq_true rfl, Nat.le_of_ble_eq_true rfl⟩, rfl, rfl⟩, w_984, w_986, w_15⟩
theorem s_X12_fined_159 : SiteV M_X12_fined M_X12_limitAt 159 2 0 0 := ⟨⟨w_1013, w_54, ⟨nh_X12.1, nh_X12.2, pd_X12_limitAt⟩, ⟨Nat.le_of_ble_eq_true rfl, Nat.le_of_ble_eq_true rfl⟩, rfl, rfl⟩, w_1010, w_1012, w_19⟩
theorem s_X12_fined_119 : SiteS M_X12_fined M_X12_least 119 2 0 0 := ⟨⟨w_1002, w_54, ⟨nh_X12.1, nh_X12.2, pd_X12_least⟩, ⟨Nat.le_of_ble_eq_true rfl, Nat.le_of_ble_eq_true rfl⟩, rfl, rfl⟩, w_1000, w_1001⟩
theorem s_X12_fined_122 : SiteS M_X12_fined M_X12_most 122 2 0 0 := ⟨⟨w_1005, w_54, ⟨nh_X12.1, nh_X12.2, pd_X12_most⟩, ⟨Nat.le_of_ble_eq_true rfl, Nat.le_of_ble_eq_true rfl⟩, rfl, rfl⟩, w_1003, w_1004⟩
theorem pd_X12_pastIn : (parseMethodDescriptor M_X12_pastIn.1.desc).map (fun d => d.parameters.length) = some 3 := by decide +kernel
theorem s_X12_fined_179 : SiteV M_X12_fined M_X12_pastIn 179 3 0 0 := ⟨⟨w_1081, w_54, ⟨nh_X12.1, nh_X12.2, pd_X12_pastIn⟩, ⟨Nat.le_of_ble_eq_true rfl, Nat.le_of_ble_eq_true rfl⟩, rfl, rfl⟩, w_1078, w_1080, w_27⟩
theorem s_X12_goOn_159 : SiteV M_X12_goOn M_X12_limitAt 159 2 0 0 := ⟨⟨w_1013, w_54, ⟨nh_X12.1, nh_X12.2, pd_X12_limitAt⟩, ⟨Nat.le_of_ble_eq_true rfl, Nat.le_of_ble_eq_true rfl⟩, rfl, rfl⟩, w_1010, w_1012, w_19⟩
theorem s_X12_goOn_119 : SiteS M_X12_goOn M_X12_least 119 2 0 0 := ⟨⟨w_1002, w_54, ⟨nh_X12.1, nh_X12.2, pd_X12_least⟩, ⟨Nat.le_of_ble_eq_true rfl, Nat.le_of_ble_eq_true rfl⟩, rfl, rfl⟩, w_1000, w_1001⟩
theorem s_X12_limit_83 : SiteS M_X12_limit M_X12_isCell 83 1 0 0 := ⟨⟨w_930, w_54, ⟨nh_X12.1, nh_X12.2, pd_X12_isCell⟩, ⟨Nat.le_of_ble_eq_true rfl, Nat.le_of_ble_eq_true rfl⟩, rfl, rfl⟩, w_928, w_929⟩
theorem s_X12_limit_149 : SiteS M_X12_limit M_X12_isMinute 149 1 0 0 := ⟨⟨w_978, w_54, ⟨nh_X12.1, nh_X12.2, pd_X12_isMinute⟩, ⟨Nat.le_of_ble_eq_true rfl, Nat.le_of_ble_eq_true rfl⟩, rfl, rfl⟩, w_976, w_977⟩
theorem s_X12_limit_65 : SiteS M_X12_limit M_X12_in 65 3 0 0 := ⟨⟨w_904, w_54, ⟨nh_X12.1, nh_X12.2, pd_X12_in⟩, ⟨Nat.le_of_ble_eq_true rfl, Nat.le_of_ble_eq_true rfl⟩, rfl, rfl⟩, w_902, w_903⟩
theorem s_X12_limit_75 : SiteV M_X12_limit M_X12_bad 75 1 0 0 := ⟨⟨w_909, w_54, ⟨nh_X12.1, nh_X12.2, pd_X12_bad⟩, ⟨Nat.le_of_ble_eq_true rfl, Nat.le_of_ble_eq_true rfl⟩, rfl, rfl⟩, w_906, w_908, w_6⟩
theorem s_X12_limit_152 : SiteV M_X12_limit M_X12_all 152 0 0 0 := ⟨⟨w_983, w_54, ⟨nh_X12.1, nh_X12.2, pd_X12_all⟩, ⟨Nat.le_of_ble_eq_true rfl, Nat.le_of_ble_eq_true rfl⟩, rfl, rfl⟩, w_980, w_982, w_14⟩
theorem s_X12_limit_155 : SiteV M_X12_limit M_X12_layHand 155 1 0 0 := ⟨⟨w_987, w_54, ⟨nh_X12.1, nh_X12.2, pd_X12_layHand⟩, ⟨Nat.le_of_ble_eq_true rfl, Nat.le_of_ble_eq_true rfl⟩, rfl, rfl⟩, w_984, w_986, w_15⟩
theorem s_X12_limit_159 : SiteV M_X12_limit M_X12_limitAt 159 2 0 0 := ⟨⟨w_1013, w_54, ⟨nh_X12.1, nh_X12.2, pd_X12_limitAt⟩, ⟨Nat.le_of_ble_eq_true rfl, Nat.le_of_ble_eq_true rfl⟩, rfl, rfl⟩, w_1010, w_1012, w_19⟩
theorem s_X12_limit_143 : SiteV M_X12_limit M_X12_nearest 143 3 0 0 := ⟨⟨w_1017, w_54, ⟨nh_X12.1, nh_X12.2, pd_X12_nearest⟩, ⟨Nat.le_of_ble_eq_true rfl, Nat.le_of_ble_eq_true rfl⟩, rfl, rfl⟩, w_1014, w_1016, w_20⟩
theorem s_X12_mostLike_152 : SiteV M_X12_mostLike M_X12_all 152 0 0 0 := ⟨⟨w_983, w_54, ⟨nh_X12.1, nh_X12.2, pd_X12_all⟩, ⟨Nat.le_of_ble_eq_true rfl, Nat.le_of_ble_eq_true rfl⟩, rfl, rfl⟩, w_980, w_982, w_14⟩
theorem s_X12_mostLike_155 : SiteV M_X12_mostLike M_X12_layHand 155 1 0 0 := ⟨⟨w_987, w_54, ⟨nh_X12.1, nh_X12.2, pd_X12_layHand⟩, ⟨Nat.le_of_ble_eq_true rfl, Nat.le_of_ble_eq_true rfl⟩, rfl, rfl⟩, w_984, w_986, w_15⟩
theorem s_X12_mostLike_159 : SiteV M_X12_mostLike M_X12_limitAt 159 2 0 0 := ⟨⟨w_1013, w_54, ⟨nh_X12.1, nh_X12.2, pd_X12_limitAt⟩, ⟨Nat.le_of_ble_eq_true rfl, Nat.le_of_ble_eq_true rfl⟩, rfl, rfl⟩, w_1010, w_1012, w_19⟩
theorem s_X12_mostLike_122 : SiteS M_X12_mostLike M_X12_most 122 2 0 0 := ⟨⟨w_1005, w_54, ⟨nh_X12.1, nh_X12.2, pd_X12_most⟩, ⟨Nat.le_of_ble_eq_true rfl, Nat.le_of_ble_eq_true rfl⟩, rfl, rfl⟩, w_1003, w_1004⟩
theorem pd_X12_isCalled : (parseMethodDescriptor M_X12_isCalled.1.desc).map (fun d => d.parameters.length) = some 6 := by decide +kernel
theorem s_X12_takesChild_260 : SiteV M_X12_takesChild M_X12_isCalled 260 6 0 0 := ⟨⟨w_1184, w_54, ⟨nh_X12.1, nh_X12.2, pd_X12_isCalled⟩, ⟨Nat.le_of_ble_eq_true rfl, Nat.le_of_ble_eq_true rfl⟩, rfl, rfl⟩, w_1181, w_1183, w_35⟩
theorem s_X12_takesChild_257 : SiteV M_X12_takesChild M_X12_goBehind 257 0 0 0 := ⟨⟨w_1188, w_54, ⟨nh_X12.1, nh_X12.2, pd_X12_goBehind⟩, ⟨Nat.le_of_ble_eq_true rfl, Nat.le_of_ble_eq_true rfl⟩, rfl, rfl⟩, w_1185, w_1187, w_36⟩
theorem pd_X12_takes : (parseMethodDescriptor M_X12_takes.1.desc).map (fun d => d.parameters.length) = some 3 := by decide +kernel
theorem s_X12_takesChild_264 : SiteV M_X12_takesChild M_X12_takes 264 3 0 0 := ⟨⟨w_1192, w_54, ⟨nh_X12.1, nh_X12.2, pd_X12_takes⟩, ⟨Nat.le_of_ble_eq_true rfl, Nat.le_of_ble_eq_true rfl⟩, rfl, rfl⟩, w_1189, w_1191, w_37⟩
theorem s_X12_takesChild_94 : SiteS M_X12_takesChild M_X12_layChild 94 6 0 0 := ⟨⟨w_939, w_54, ⟨nh_X12.1, nh_X12.2, pd_X12_layChild⟩, ⟨Nat.le_of_ble_eq_true rfl, Nat.le_of_ble_eq_true rfl⟩, rfl, rfl⟩, w_937, w_938⟩
theorem s_X12_takesFirst_260 : SiteV M_X12_takesFirst M_X12_isCalled 260 6 0 0 := ⟨⟨w_1184, w_54, ⟨nh_X12.1, nh_X12.2, pd_X12_isCalled⟩, ⟨Nat.le_of_ble_eq_true rfl, Nat.le_of_ble_eq_true rfl⟩, rfl, rfl⟩, w_1181, w_1183, w_35⟩
theorem s_X12_takesFirst_257 : SiteV M_X12_takesFirst M_X12_goBehind 257 0 0 0 := ⟨⟨w_1188, w_54, ⟨nh_X12.1, nh_X12.2, pd_X12_goBehind⟩, ⟨Nat.le_of_ble_eq_true rfl, Nat.le_of_ble_eq_true rfl⟩, rfl, rfl⟩, w_1185, w_1187, w_36⟩
theorem s_X12_takesFirst_264 : SiteV M_X12_takesFirst M_X12_takes 264 3 0 0 := ⟨⟨w_1192, w_54, ⟨nh_X12.1, nh_X12.2, pd_X12_takes⟩, ⟨Nat.le_of_ble_eq_true rfl, Nat.le_of_ble_eq_true rfl⟩, rfl, rfl⟩, w_1189, w_1191, w_37⟩
theorem s_X12_takesFirst_57 : SiteS M_X12_takesFirst M_X12_begin 57 3 0 0 := ⟨⟨w_829, w_54, ⟨nh_X12.1, nh_X12.2, pd_X12_begin⟩, ⟨Nat.le_of_ble_eq_true rfl, Nat.le_of_ble_eq_true rfl⟩, rfl, rfl⟩, w_827, w_828⟩
theorem s_X12_thereFrom_159 : SiteV M_X12_thereFrom M_X12_limitAt 159 2 0 0 := ⟨⟨w_1013, w_54, ⟨nh_X12.1, nh_X12.2, pd_X12_limitAt⟩, ⟨Nat.le_of_ble_eq_true rfl, Nat.le_of_ble_eq_true rfl⟩, rfl, rfl⟩, w_1010, w_1012, w_19⟩
theorem s_X12_thereFrom_119 : SiteS M_X12_thereFrom M_X12_least 119 2 0 0 := ⟨⟨w_1002, w_54, ⟨nh_X12.1, nh_X12.2, pd_X12_least⟩, ⟨Nat.le_of_ble_eq_true rfl, Nat.le_of_ble_eq_true rfl⟩, rfl, rfl⟩, w_1000, w_1001⟩
theorem s_X12_whereAt_159 : SiteV M_X12_whereAt M_X12_limitAt 159 2 0 0 := ⟨⟨w_1013, w_54, ⟨nh_X12.1, nh_X12.2, pd_X12_limitAt⟩, ⟨Nat.le_of_ble_eq_true rfl, Nat.le_of_ble_eq_true rfl⟩, rfl, rfl⟩, w_1010, w_1012, w_19⟩
theorem s_X12_whereAt_119 : SiteS M_X12_whereAt M_X12_least 119 2 0 0 := ⟨⟨w_1002, w_54, ⟨nh_X12.1, nh_X12.2, pd_X12_least⟩, ⟨Nat.le_of_ble_eq_true rfl, Nat.le_of_ble_eq_true rfl⟩, rfl, rfl⟩, w_1000, w_1001⟩
theorem f_X1_67 : FSite RX1 67 6 2 false false .int := ⟨RX6, TX6, 18, tyX6, rfl, i_X6, by decide, w_87, rfl, by decide +kernel, tyX6_ok, nmX6, fun h => by cases h⟩
theorem f_X1_70 : FSite RX1 70 6 5 true false (.array .int) := ⟨RX6, TX6, 18, tyX6, rfl, i_X6, by decide, w_98, rfl, by decide +kernel, tyX6_ok, nmX6, fun h => by cases h⟩
theorem s_X1_bestMove_26 : SiteV M_X1_bestMove M_X6_everyChild 26 0 0 0 := ⟨⟨w_575, w_43, ⟨nh_X6.1, nh_X6.2, pd_X6_everyChild⟩, ⟨Nat.le_of_ble_eq_true rfl, Nat.le_of_ble_eq_true rfl⟩, rfl, rfl⟩, w_614, w_573, w_574⟩
theorem s_X1_bestMove_45 : SiteV M_X1_bestMove M_X1_endOfDrive 45 3 0 0 := ⟨⟨w_624, w_52, ⟨nh_X1.1, nh_X1.2, pd_X1_endOfDrive⟩, ⟨Nat.le_of_ble_eq_true rfl, Nat.le_of_ble_eq_true rfl⟩, rfl, rfl⟩, w_645, w_622, w_623⟩
theorem s_X1_bestStart_26 : SiteV M_X1_bestStart M_X6_everyChild 26 0 0 0 := ⟨⟨w_575, w_43, ⟨nh_X6.1, nh_X6.2, pd_X6_everyChild⟩, ⟨Nat.le_of_ble_eq_true rfl, Nat.le_of_ble_eq_true rfl⟩, rfl, rfl⟩, w_614, w_573, w_574⟩
theorem s_X1_bestStart_45 : SiteV M_X1_bestStart M_X1_endOfDrive 45 3 0 0 := ⟨⟨w_624, w_52, ⟨nh_X1.1, nh_X1.2, pd_X1_endOfDrive⟩, ⟨Nat.le_of_ble_eq_true rfl, Nat.le_of_ble_eq_true rfl⟩, rfl, rfl⟩, w_645, w_622, w_623⟩
theorem s_X1_bestToBed_26 : SiteV M_X1_bestToBed M_X6_everyChild 26 0 0 0 := ⟨⟨w_575, w_43, ⟨nh_X6.1, nh_X6.2, pd_X6_everyChild⟩, ⟨Nat.le_of_ble_eq_true rfl, Nat.le_of_ble_eq_true rfl⟩, rfl, rfl⟩, w_614, w_573, w_574⟩
theorem s_X1_bestToBed_58 : SiteV M_X1_bestToBed M_X1_soonestEnd 58 3 0 0 := ⟨⟨w_635, w_52, ⟨nh_X1.1, nh_X1.2, pd_X1_soonestEnd⟩, ⟨Nat.le_of_ble_eq_true rfl, Nat.le_of_ble_eq_true rfl⟩, rfl, rfl⟩, w_678, w_633, w_634⟩
theorem nh_J6 : (RJ6 ≠ "java/lang/invoke/MethodHandle") ∧ (RJ6 ≠ "java/lang/invoke/VarHandle") := ⟨by decide +kernel, by decide +kernel⟩
theorem pd_J6_bitCount_0f7a4 : (parseMethodDescriptor M_J6_bitCount_0f7a4.1.desc).map (fun d => d.parameters.length) = some 1 := by decide +kernel
theorem s_X1_bestToBed_61 : SiteS M_X1_bestToBed M_J6_bitCount_0f7a4 61 1 0 0 := ⟨⟨w_681, w_61, ⟨nh_J6.1, nh_J6.2, pd_J6_bitCount_0f7a4⟩, ⟨Nat.le_of_ble_eq_true rfl, Nat.le_of_ble_eq_true rfl⟩, rfl, rfl⟩, w_679, w_680⟩
theorem n_X1_9 : NSite RX1 9 4 8 [.null, .null, .null, .null, .null, .null, .null, .null] := ⟨RX4, TX4, tyX4, rfl, i_X4, tyX4_ok, w_261, w_181, w_45, by decide +kernel, by decide +kernel⟩
theorem ob_X1_3 : OSite RX1 3 := ⟨w_260, w_69, w_70⟩
theorem pd_X4_init : (parseMethodDescriptor M_X4_init.1.desc).map (fun d => d.parameters.length) = some 0 := by decide +kernel
theorem s_X1_init_11 : SiteIN M_X1_init M_X4_init 11 0 8 12 "SmallestSpeed" := ⟨⟨w_184, w_45, ⟨nh_X4.1, nh_X4.2, pd_X4_init⟩, ⟨Nat.le_of_ble_eq_true rfl, Nat.le_of_ble_eq_true rfl⟩, rfl, rfl⟩, rfl, by decide +kernel, w_183, List.mem_of_getElem? (i := 15) (by decide +kernel)⟩
theorem s_X1_minutesOfDays_45 : SiteV M_X1_minutesOfDays M_X1_endOfDrive 45 3 0 0 := ⟨⟨w_624, w_52, ⟨nh_X1.1, nh_X1.2, pd_X1_endOfDrive⟩, ⟨Nat.le_of_ble_eq_true rfl, Nat.le_of_ble_eq_true rfl⟩, rfl, rfl⟩, w_645, w_622, w_623⟩
theorem s_X1_restingPairs_26 : SiteV M_X1_restingPairs M_X6_everyChild 26 0 0 0 := ⟨⟨w_575, w_43, ⟨nh_X6.1, nh_X6.2, pd_X6_everyChild⟩, ⟨Nat.le_of_ble_eq_true rfl, Nat.le_of_ble_eq_true rfl⟩, rfl, rfl⟩, w_614, w_573, w_574⟩
theorem s_X1_restingPairs_45 : SiteV M_X1_restingPairs M_X1_endOfDrive 45 3 0 0 := ⟨⟨w_624, w_52, ⟨nh_X1.1, nh_X1.2, pd_X1_endOfDrive⟩, ⟨Nat.le_of_ble_eq_true rfl, Nat.le_of_ble_eq_true rfl⟩, rfl, rfl⟩, w_645, w_622, w_623⟩
theorem pd_X1_isBestAgainst : (parseMethodDescriptor M_X1_isBestAgainst.1.desc).map (fun d => d.parameters.length) = some 2 := by decide +kernel
theorem s_X1_restingPairs_73 : SiteV M_X1_restingPairs M_X1_isBestAgainst 73 2 0 0 := ⟨⟨w_704, w_52, ⟨nh_X1.1, nh_X1.2, pd_X1_isBestAgainst⟩, ⟨Nat.le_of_ble_eq_true rfl, Nat.le_of_ble_eq_true rfl⟩, rfl, rfl⟩, w_701, w_702, w_703⟩
theorem s_X7_readWord_22 : SiteV M_X7_readWord M_X7_isAtEnd 22 0 0 0 := ⟨⟨w_423, w_44, ⟨nh_X7.1, nh_X7.2, pd_X7_isAtEnd⟩, ⟨Nat.le_of_ble_eq_true rfl, Nat.le_of_ble_eq_true rfl⟩, rfl, rfl⟩, w_420, w_421, w_422⟩
theorem s_X7_readWord_58 : SiteV M_X7_readWord M_X7_endOfRun 58 2 0 0 := ⟨⟨w_436, w_44, ⟨nh_X7.1, nh_X7.2, pd_X7_endOfRun⟩, ⟨Nat.le_of_ble_eq_true rfl, Nat.le_of_ble_eq_true rfl⟩, rfl, rfl⟩, w_433, w_434, w_435⟩
theorem pd_J0_length_8abf5 : (parseMethodDescriptor M_J0_length_8abf5.1.desc).map (fun d => d.parameters.length) = some 0 := by decide +kernel
theorem s_X7_readWord_61 : SiteV M_X7_readWord M_J0_length_8abf5 61 0 0 0 := ⟨⟨w_440, w_56, ⟨nh_J0.1, nh_J0.2, pd_J0_length_8abf5⟩, ⟨Nat.le_of_ble_eq_true rfl, Nat.le_of_ble_eq_true rfl⟩, rfl, rfl⟩, w_437, w_438, w_439⟩
theorem pd_J0_charAt_5068e : (parseMethodDescriptor M_J0_charAt_5068e.1.desc).map (fun d => d.parameters.length) = some 1 := by decide +kernel
theorem s_X7_readWord_66 : SiteV M_X7_readWord M_J0_charAt_5068e 66 1 0 0 := ⟨⟨w_450, w_56, ⟨nh_J0.1, nh_J0.2, pd_J0_charAt_5068e⟩, ⟨Nat.le_of_ble_eq_true rfl, Nat.le_of_ble_eq_true rfl⟩, rfl, rfl⟩, w_447, w_448, w_449⟩
theorem s_X8_bestCell_31 : SiteV M_X8_bestCell M_X4_see 31 2 0 0 := ⟨⟨w_515, w_45, ⟨nh_X4.1, nh_X4.2, pd_X4_see⟩, ⟨Nat.le_of_ble_eq_true rfl, Nat.le_of_ble_eq_true rfl⟩, rfl, rfl⟩, w_734, w_513, w_514⟩
theorem nh_J13 : (RJ13 ≠ "java/lang/invoke/MethodHandle") ∧ (RJ13 ≠ "java/lang/invoke/VarHandle") := ⟨by decide +kernel, by decide +kernel⟩
theorem pd_J13_bitCount_95d88 : (parseMethodDescriptor M_J13_bitCount_95d88.1.desc).map (fun d => d.parameters.length) = some 1 := by decide +kernel
theorem s_X8_bestCell_53 : SiteS M_X8_bestCell M_J13_bitCount_95d88 53 1 0 0 := ⟨⟨w_738, w_62, ⟨nh_J13.1, nh_J13.2, pd_J13_bitCount_95d88⟩, ⟨Nat.le_of_ble_eq_true rfl, Nat.le_of_ble_eq_true rfl⟩, rfl, rfl⟩, w_754, w_737⟩
theorem nh_X8 : (RX8 ≠ "java/lang/invoke/MethodHandle") ∧ (RX8 ≠ "java/lang/invoke/VarHandle") := ⟨by decide +kernel, by decide +kernel⟩
theorem pd_X8_mostAlike : (parseMethodDescriptor M_X8_mostAlike.1.desc).map (fun d => d.parameters.length) = some 3 := by decide +kernel
theorem s_X8_bestCell_59 : SiteV M_X8_bestCell M_X8_mostAlike 59 3 0 0 := ⟨⟨w_758, w_53, ⟨nh_X8.1, nh_X8.2, pd_X8_mostAlike⟩, ⟨Nat.le_of_ble_eq_true rfl, Nat.le_of_ble_eq_true rfl⟩, rfl, rfl⟩, w_755, w_756, w_757⟩
theorem s_X8_fittingSets_45 : SiteV M_X8_fittingSets M_X6_everyChild 45 0 0 0 := ⟨⟨w_575, w_43, ⟨nh_X6.1, nh_X6.2, pd_X6_everyChild⟩, ⟨Nat.le_of_ble_eq_true rfl, Nat.le_of_ble_eq_true rfl⟩, rfl, rfl⟩, w_729, w_573, w_574⟩
theorem pd_X8_isAsRead : (parseMethodDescriptor M_X8_isAsRead.1.desc).map (fun d => d.parameters.length) = some 2 := by decide +kernel
theorem s_X8_fittingSets_49 : SiteV M_X8_fittingSets M_X8_isAsRead 49 2 0 0 := ⟨⟨w_733, w_53, ⟨nh_X8.1, nh_X8.2, pd_X8_isAsRead⟩, ⟨Nat.le_of_ble_eq_true rfl, Nat.le_of_ble_eq_true rfl⟩, rfl, rfl⟩, w_730, w_731, w_732⟩
theorem n_X8_9 : NSite RX8 9 4 8 [.null, .null, .null, .null, .null, .null, .null, .null] := ⟨RX4, TX4, tyX4, rfl, i_X4, tyX4_ok, w_276, w_181, w_45, by decide +kernel, by decide +kernel⟩
theorem ob_X8_3 : OSite RX8 3 := ⟨w_275, w_69, w_70⟩
theorem s_X8_init_11 : SiteIN M_X8_init M_X4_init 11 0 8 12 "SmallestSpeed" := ⟨⟨w_184, w_45, ⟨nh_X4.1, nh_X4.2, pd_X4_init⟩, ⟨Nat.le_of_ble_eq_true rfl, Nat.le_of_ble_eq_true rfl⟩, rfl, rfl⟩, rfl, by decide +kernel, w_183, List.mem_of_getElem? (i := 17) (by decide +kernel)⟩
theorem f_X8_69 : FSite RX8 69 6 2 false false .int := ⟨RX6, TX6, 18, tyX6, rfl, i_X6, by decide, w_86, rfl, by decide +kernel, tyX6_ok, nmX6, fun h => by cases h⟩
theorem f_X8_72 : FSite RX8 72 6 3 true false (.array .int) := ⟨RX6, TX6, 18, tyX6, rfl, i_X6, by decide, w_90, rfl, by decide +kernel, tyX6_ok, nmX6, fun h => by cases h⟩
theorem s_X8_possibleDolls_45 : SiteV M_X8_possibleDolls M_X6_everyChild 45 0 0 0 := ⟨⟨w_575, w_43, ⟨nh_X6.1, nh_X6.2, pd_X6_everyChild⟩, ⟨Nat.le_of_ble_eq_true rfl, Nat.le_of_ble_eq_true rfl⟩, rfl, rfl⟩, w_729, w_573, w_574⟩
theorem s_X8_possibleDolls_49 : SiteV M_X8_possibleDolls M_X8_isAsRead 49 2 0 0 := ⟨⟨w_733, w_53, ⟨nh_X8.1, nh_X8.2, pd_X8_isAsRead⟩, ⟨Nat.le_of_ble_eq_true rfl, Nat.le_of_ble_eq_true rfl⟩, rfl, rfl⟩, w_730, w_731, w_732⟩
theorem s_X11_carters_57 : SiteS M_X11_carters M_X11_within 57 3 0 0 := ⟨⟨w_337, w_42, ⟨nh_X11.1, nh_X11.2, pd_X11_within⟩, ⟨Nat.le_of_ble_eq_true rfl, Nat.le_of_ble_eq_true rfl⟩, rfl, rfl⟩, w_335, w_336⟩
theorem s_X11_carters_150 : SiteS M_X11_carters M_X11_isZeroOrOne 150 1 0 0 := ⟨⟨w_571, w_42, ⟨nh_X11.1, nh_X11.2, pd_X11_isZeroOrOne⟩, ⟨Nat.le_of_ble_eq_true rfl, Nat.le_of_ble_eq_true rfl⟩, rfl, rfl⟩, w_569, w_570⟩
theorem s_X11_carters_61 : SiteV M_X11_carters M_X11_refuseBad 61 1 0 0 := ⟨⟨w_341, w_42, ⟨nh_X11.1, nh_X11.2, pd_X11_refuseBad⟩, ⟨Nat.le_of_ble_eq_true rfl, Nat.le_of_ble_eq_true rfl⟩, rfl, rfl⟩, w_338, w_340, w_0⟩
theorem pd_X1_restingPairs : (parseMethodDescriptor M_X1_restingPairs.1.desc).map (fun d => d.parameters.length) = some 3 := by decide +kernel
theorem s_X11_carters_194 : SiteV M_X11_carters M_X1_restingPairs 194 3 0 0 := ⟨⟨w_700, w_52, ⟨nh_X1.1, nh_X1.2, pd_X1_restingPairs⟩, ⟨Nat.le_of_ble_eq_true rfl, Nat.le_of_ble_eq_true rfl⟩, rfl, rfl⟩, w_697, w_698, w_699⟩
theorem s_X11_days_57 : SiteS M_X11_days M_X11_within 57 3 0 0 := ⟨⟨w_337, w_42, ⟨nh_X11.1, nh_X11.2, pd_X11_within⟩, ⟨Nat.le_of_ble_eq_true rfl, Nat.le_of_ble_eq_true rfl⟩, rfl, rfl⟩, w_335, w_336⟩
theorem s_X11_days_61 : SiteV M_X11_days M_X11_refuseBad 61 1 0 0 := ⟨⟨w_341, w_42, ⟨nh_X11.1, nh_X11.2, pd_X11_refuseBad⟩, ⟨Nat.le_of_ble_eq_true rfl, Nat.le_of_ble_eq_true rfl⟩, rfl, rfl⟩, w_338, w_340, w_0⟩
theorem s_X11_days_107 : SiteV M_X11_days M_X11_refuseNo 107 0 0 0 := ⟨⟨w_395, w_42, ⟨nh_X11.1, nh_X11.2, pd_X11_refuseNo⟩, ⟨Nat.le_of_ble_eq_true rfl, Nat.le_of_ble_eq_true rfl⟩, rfl, rfl⟩, w_392, w_394, w_3⟩
theorem pd_X1_minutesOfDays : (parseMethodDescriptor M_X1_minutesOfDays.1.desc).map (fun d => d.parameters.length) = some 4 := by decide +kernel
theorem s_X11_days_226 : SiteV M_X11_days M_X1_minutesOfDays 226 4 0 0 := ⟨⟨w_776, w_52, ⟨nh_X1.1, nh_X1.2, pd_X1_minutesOfDays⟩, ⟨Nat.le_of_ble_eq_true rfl, Nat.le_of_ble_eq_true rfl⟩, rfl, rfl⟩, w_773, w_774, w_775⟩
theorem pd_X11_keepFraction : (parseMethodDescriptor M_X11_keepFraction.1.desc).map (fun d => d.parameters.length) = some 2 := by decide +kernel
theorem s_X11_days_230 : SiteV M_X11_days M_X11_keepFraction 230 2 0 0 := ⟨⟨w_785, w_42, ⟨nh_X11.1, nh_X11.2, pd_X11_keepFraction⟩, ⟨Nat.le_of_ble_eq_true rfl, Nat.le_of_ble_eq_true rfl⟩, rfl, rfl⟩, w_782, w_784, w_4⟩
theorem f_X11_16 : FSite RX11 16 11 1 true true (.object "SmallestSpeed$Road") := ⟨RX11, TX11, 15, tyX11, rfl, i_X11, by decide, w_286, rfl, by decide +kernel, tyX11_ok, nmX11, fun _ => rfl⟩
theorem f_X11_49 : FSite RX11 49 11 9 true true (.object "SmallestSpeed$Sightings") := ⟨RX11, TX11, 15, tyX11, rfl, i_X11, by decide, w_294, rfl, by decide +kernel, tyX11_ok, nmX11, fun _ => rfl⟩
theorem s_X11_dolls_124 : SiteV M_X11_dolls M_X6_copyFrom 124 1 0 0 := ⟨⟨w_503, w_43, ⟨nh_X6.1, nh_X6.2, pd_X6_copyFrom⟩, ⟨Nat.le_of_ble_eq_true rfl, Nat.le_of_ble_eq_true rfl⟩, rfl, rfl⟩, w_500, w_501, w_502⟩
theorem pd_X8_possibleDolls : (parseMethodDescriptor M_X8_possibleDolls.1.desc).map (fun d => d.parameters.length) = some 1 := by decide +kernel
theorem s_X11_dolls_222 : SiteV M_X11_dolls M_X8_possibleDolls 222 1 0 0 := ⟨⟨w_767, w_53, ⟨nh_X8.1, nh_X8.2, pd_X8_possibleDolls⟩, ⟨Nat.le_of_ble_eq_true rfl, Nat.le_of_ble_eq_true rfl⟩, rfl, rfl⟩, w_764, w_765, w_766⟩
theorem n_X11_7 : NSite RX11 7 6 18 [.int 0, .int 0, .int 0, .null, .null, .null, .null, .null, .int 0, .null, .int 0, .null, .null, .null, .int 0, .null, .null, .null] := ⟨RX6, TX6, tyX6, rfl, i_X6, tyX6_ok, w_71, w_72, w_43, by decide +kernel, by decide +kernel⟩
theorem n_X11_25 : NSite RX11 25 7 3 [.null, .int 0, .int 0] := ⟨RX7, TX7, tyX7, rfl, i_X7, tyX7_ok, w_163, w_164, w_44, by decide +kernel, by decide +kernel⟩
theorem n_X11_32 : NSite RX11 32 4 8 [.null, .null, .null, .null, .null, .null, .null, .null] := ⟨RX4, TX4, tyX4, rfl, i_X4, tyX4_ok, w_180, w_181, w_45, by decide +kernel, by decide +kernel⟩
theorem n_X11_39 : NSite RX11 39 1 2 [.null, .null] := ⟨RX1, TX1, tyX1, rfl, i_X1, tyX1_ok, w_255, w_256, w_52, by decide +kernel, by decide +kernel⟩
theorem n_X11_46 : NSite RX11 46 8 2 [.null, .null] := ⟨RX8, TX8, tyX8, rfl, i_X8, tyX8_ok, w_270, w_271, w_53, by decide +kernel, by decide +kernel⟩
theorem ob_X11_1 : OSite RX11 1 := ⟨w_68, w_69, w_70⟩
theorem pd_X6_init : (parseMethodDescriptor M_X6_init.1.desc).map (fun d => d.parameters.length) = some 0 := by decide +kernel
theorem s_X11_init_9 : SiteIN M_X11_init M_X6_init 9 0 12 92 "SmallestSpeed" := ⟨⟨w_75, w_43, ⟨nh_X6.1, nh_X6.2, pd_X6_init⟩, ⟨Nat.le_of_ble_eq_true rfl, Nat.le_of_ble_eq_true rfl⟩, rfl, rfl⟩, rfl, by decide +kernel, w_74, List.mem_of_getElem? (i := 0) (by decide +kernel)⟩
theorem pd_X7_init : (parseMethodDescriptor M_X7_init.1.desc).map (fun d => d.parameters.length) = some 0 := by decide +kernel
theorem s_X11_init_27 : SiteIN M_X11_init M_X7_init 27 0 1 150 "SmallestSpeed" := ⟨⟨w_167, w_44, ⟨nh_X7.1, nh_X7.2, pd_X7_init⟩, ⟨Nat.le_of_ble_eq_true rfl, Nat.le_of_ble_eq_true rfl⟩, rfl, rfl⟩, rfl, by decide +kernel, w_166, List.mem_of_getElem? (i := 1) (by decide +kernel)⟩
theorem s_X11_init_34 : SiteIN M_X11_init M_X4_init 34 0 8 12 "SmallestSpeed" := ⟨⟨w_184, w_45, ⟨nh_X4.1, nh_X4.2, pd_X4_init⟩, ⟨Nat.le_of_ble_eq_true rfl, Nat.le_of_ble_eq_true rfl⟩, rfl, rfl⟩, rfl, by decide +kernel, w_183, List.mem_of_getElem? (i := 2) (by decide +kernel)⟩
theorem pd_X1_init : (parseMethodDescriptor M_X1_init.1.desc).map (fun d => d.parameters.length) = some 0 := by decide +kernel
theorem s_X11_init_41 : SiteIN M_X11_init M_X1_init 41 0 10 26 "SmallestSpeed" := ⟨⟨w_259, w_52, ⟨nh_X1.1, nh_X1.2, pd_X1_init⟩, ⟨Nat.le_of_ble_eq_true rfl, Nat.le_of_ble_eq_true rfl⟩, rfl, rfl⟩, rfl, by decide +kernel, w_258, List.mem_of_getElem? (i := 14) (by decide +kernel)⟩
theorem pd_X8_init : (parseMethodDescriptor M_X8_init.1.desc).map (fun d => d.parameters.length) = some 0 := by decide +kernel
theorem s_X11_init_48 : SiteIN M_X11_init M_X8_init 48 0 10 30 "SmallestSpeed" := ⟨⟨w_274, w_53, ⟨nh_X8.1, nh_X8.2, pd_X8_init⟩, ⟨Nat.le_of_ble_eq_true rfl, Nat.le_of_ble_eq_true rfl⟩, rfl, rfl⟩, rfl, by decide +kernel, w_273, List.mem_of_getElem? (i := 16) (by decide +kernel)⟩
theorem s_X11_look_128 : SiteS M_X11_look M_X11_isMinute 128 1 0 0 := ⟨⟨w_511, w_42, ⟨nh_X11.1, nh_X11.2, pd_X11_isMinute⟩, ⟨Nat.le_of_ble_eq_true rfl, Nat.le_of_ble_eq_true rfl⟩, rfl, rfl⟩, w_509, w_510⟩
theorem s_X11_look_61 : SiteV M_X11_look M_X11_refuseBad 61 1 0 0 := ⟨⟨w_341, w_42, ⟨nh_X11.1, nh_X11.2, pd_X11_refuseBad⟩, ⟨Nat.le_of_ble_eq_true rfl, Nat.le_of_ble_eq_true rfl⟩, rfl, rfl⟩, w_338, w_340, w_0⟩
theorem pd_X8_fittingSets : (parseMethodDescriptor M_X8_fittingSets.1.desc).map (fun d => d.parameters.length) = some 1 := by decide +kernel
theorem s_X11_look_204 : SiteV M_X11_look M_X8_fittingSets 204 1 0 0 := ⟨⟨w_728, w_53, ⟨nh_X8.1, nh_X8.2, pd_X8_fittingSets⟩, ⟨Nat.le_of_ble_eq_true rfl, Nat.le_of_ble_eq_true rfl⟩, rfl, rfl⟩, w_725, w_726, w_727⟩
theorem pd_X8_bestCell : (parseMethodDescriptor M_X8_bestCell.1.desc).map (fun d => d.parameters.length) = some 3 := by decide +kernel
theorem s_X11_look_218 : SiteV M_X11_look M_X8_bestCell 218 3 0 0 := ⟨⟨w_753, w_53, ⟨nh_X8.1, nh_X8.2, pd_X8_bestCell⟩, ⟨Nat.le_of_ble_eq_true rfl, Nat.le_of_ble_eq_true rfl⟩, rfl, rfl⟩, w_750, w_751, w_752⟩
theorem s_X11_move_128 : SiteS M_X11_move M_X11_isMinute 128 1 0 0 := ⟨⟨w_511, w_42, ⟨nh_X11.1, nh_X11.2, pd_X11_isMinute⟩, ⟨Nat.le_of_ble_eq_true rfl, Nat.le_of_ble_eq_true rfl⟩, rfl, rfl⟩, w_509, w_510⟩
theorem s_X11_move_61 : SiteV M_X11_move M_X11_refuseBad 61 1 0 0 := ⟨⟨w_341, w_42, ⟨nh_X11.1, nh_X11.2, pd_X11_refuseBad⟩, ⟨Nat.le_of_ble_eq_true rfl, Nat.le_of_ble_eq_true rfl⟩, rfl, rfl⟩, w_338, w_340, w_0⟩
theorem s_X11_move_124 : SiteV M_X11_move M_X6_copyFrom 124 1 0 0 := ⟨⟨w_503, w_43, ⟨nh_X6.1, nh_X6.2, pd_X6_copyFrom⟩, ⟨Nat.le_of_ble_eq_true rfl, Nat.le_of_ble_eq_true rfl⟩, rfl, rfl⟩, w_500, w_501, w_502⟩
theorem pd_X1_bestMove : (parseMethodDescriptor M_X1_bestMove.1.desc).map (fun d => d.parameters.length) = some 2 := by decide +kernel
theorem s_X11_move_191 : SiteV M_X11_move M_X1_bestMove 191 2 0 0 := ⟨⟨w_692, w_52, ⟨nh_X1.1, nh_X1.2, pd_X1_bestMove⟩, ⟨Nat.le_of_ble_eq_true rfl, Nat.le_of_ble_eq_true rfl⟩, rfl, rfl⟩, w_689, w_690, w_691⟩
theorem s_X11_out_150 : SiteS M_X11_out M_X11_isZeroOrOne 150 1 0 0 := ⟨⟨w_571, w_42, ⟨nh_X11.1, nh_X11.2, pd_X11_isZeroOrOne⟩, ⟨Nat.le_of_ble_eq_true rfl, Nat.le_of_ble_eq_true rfl⟩, rfl, rfl⟩, w_569, w_570⟩
theorem s_X11_out_61 : SiteV M_X11_out M_X11_refuseBad 61 1 0 0 := ⟨⟨w_341, w_42, ⟨nh_X11.1, nh_X11.2, pd_X11_refuseBad⟩, ⟨Nat.le_of_ble_eq_true rfl, Nat.le_of_ble_eq_true rfl⟩, rfl, rfl⟩, w_338, w_340, w_0⟩
theorem s_X11_out_204 : SiteV M_X11_out M_X8_fittingSets 204 1 0 0 := ⟨⟨w_728, w_53, ⟨nh_X8.1, nh_X8.2, pd_X8_fittingSets⟩, ⟨Nat.le_of_ble_eq_true rfl, Nat.le_of_ble_eq_true rfl⟩, rfl, rfl⟩, w_725, w_726, w_727⟩
theorem s_X11_out_208 : SiteS M_X11_out M_J13_bitCount_95d88 208 1 0 0 := ⟨⟨w_738, w_62, ⟨nh_J13.1, nh_J13.2, pd_J13_bitCount_95d88⟩, ⟨Nat.le_of_ble_eq_true rfl, Nat.le_of_ble_eq_true rfl⟩, rfl, rfl⟩, w_736, w_737⟩
theorem pd_X8_inAllSets : (parseMethodDescriptor M_X8_inAllSets.1.desc).map (fun d => d.parameters.length) = some 2 := by decide +kernel
theorem s_X11_out_214 : SiteV M_X11_out M_X8_inAllSets 214 2 0 0 := ⟨⟨w_745, w_53, ⟨nh_X8.1, nh_X8.2, pd_X8_inAllSets⟩, ⟨Nat.le_of_ble_eq_true rfl, Nat.le_of_ble_eq_true rfl⟩, rfl, rfl⟩, w_742, w_743, w_744⟩
theorem s_X11_start_128 : SiteS M_X11_start M_X11_isMinute 128 1 0 0 := ⟨⟨w_511, w_42, ⟨nh_X11.1, nh_X11.2, pd_X11_isMinute⟩, ⟨Nat.le_of_ble_eq_true rfl, Nat.le_of_ble_eq_true rfl⟩, rfl, rfl⟩, w_509, w_510⟩
theorem s_X11_start_61 : SiteV M_X11_start M_X11_refuseBad 61 1 0 0 := ⟨⟨w_341, w_42, ⟨nh_X11.1, nh_X11.2, pd_X11_refuseBad⟩, ⟨Nat.le_of_ble_eq_true rfl, Nat.le_of_ble_eq_true rfl⟩, rfl, rfl⟩, w_338, w_340, w_0⟩
theorem pd_X1_bestStart : (parseMethodDescriptor M_X1_bestStart.1.desc).map (fun d => d.parameters.length) = some 2 := by decide +kernel
theorem s_X11_start_176 : SiteV M_X11_start M_X1_bestStart 176 2 0 0 := ⟨⟨w_644, w_52, ⟨nh_X1.1, nh_X1.2, pd_X1_bestStart⟩, ⟨Nat.le_of_ble_eq_true rfl, Nat.le_of_ble_eq_true rfl⟩, rfl, rfl⟩, w_641, w_642, w_643⟩
theorem s_X11_toBed_128 : SiteS M_X11_toBed M_X11_isMinute 128 1 0 0 := ⟨⟨w_511, w_42, ⟨nh_X11.1, nh_X11.2, pd_X11_isMinute⟩, ⟨Nat.le_of_ble_eq_true rfl, Nat.le_of_ble_eq_true rfl⟩, rfl, rfl⟩, w_509, w_510⟩
theorem s_X11_toBed_57 : SiteS M_X11_toBed M_X11_within 57 3 0 0 := ⟨⟨w_337, w_42, ⟨nh_X11.1, nh_X11.2, pd_X11_within⟩, ⟨Nat.le_of_ble_eq_true rfl, Nat.le_of_ble_eq_true rfl⟩, rfl, rfl⟩, w_335, w_336⟩
theorem s_X11_toBed_150 : SiteS M_X11_toBed M_X11_isZeroOrOne 150 1 0 0 := ⟨⟨w_571, w_42, ⟨nh_X11.1, nh_X11.2, pd_X11_isZeroOrOne⟩, ⟨Nat.le_of_ble_eq_true rfl, Nat.le_of_ble_eq_true rfl⟩, rfl, rfl⟩, w_569, w_570⟩
theorem s_X11_toBed_61 : SiteV M_X11_toBed M_X11_refuseBad 61 1 0 0 := ⟨⟨w_341, w_42, ⟨nh_X11.1, nh_X11.2, pd_X11_refuseBad⟩, ⟨Nat.le_of_ble_eq_true rfl, Nat.le_of_ble_eq_true rfl⟩, rfl, rfl⟩, w_338, w_340, w_0⟩
theorem pd_X1_bestToBed : (parseMethodDescriptor M_X1_bestToBed.1.desc).map (fun d => d.parameters.length) = some 3 := by decide +kernel
theorem s_X11_toBed_188 : SiteV M_X11_toBed M_X1_bestToBed 188 3 0 0 := ⟨⟨w_677, w_52, ⟨nh_X1.1, nh_X1.2, pd_X1_bestToBed⟩, ⟨Nat.le_of_ble_eq_true rfl, Nat.le_of_ble_eq_true rfl⟩, rfl, rfl⟩, w_674, w_675, w_676⟩
theorem s_X11_toBed_153 : SiteV M_X11_toBed M_X6_everyChild 153 0 0 0 := ⟨⟨w_575, w_43, ⟨nh_X6.1, nh_X6.2, pd_X6_everyChild⟩, ⟨Nat.le_of_ble_eq_true rfl, Nat.le_of_ble_eq_true rfl⟩, rfl, rfl⟩, w_572, w_573, w_574⟩
theorem s_X11_toBed_173 : SiteV M_X11_toBed M_X1_soonestEnd 173 3 0 0 := ⟨⟨w_635, w_52, ⟨nh_X1.1, nh_X1.2, pd_X1_soonestEnd⟩, ⟨Nat.le_of_ble_eq_true rfl, Nat.le_of_ble_eq_true rfl⟩, rfl, rfl⟩, w_632, w_633, w_634⟩
theorem s_X12_days_65 : SiteS M_X12_days M_X12_in 65 3 0 0 := ⟨⟨w_904, w_54, ⟨nh_X12.1, nh_X12.2, pd_X12_in⟩, ⟨Nat.le_of_ble_eq_true rfl, Nat.le_of_ble_eq_true rfl⟩, rfl, rfl⟩, w_902, w_903⟩
theorem s_X12_days_75 : SiteV M_X12_days M_X12_bad 75 1 0 0 := ⟨⟨w_909, w_54, ⟨nh_X12.1, nh_X12.2, pd_X12_bad⟩, ⟨Nat.le_of_ble_eq_true rfl, Nat.le_of_ble_eq_true rfl⟩, rfl, rfl⟩, w_906, w_908, w_6⟩
theorem s_X12_days_112 : SiteV M_X12_days M_X12_no 112 0 0 0 := ⟨⟨w_971, w_54, ⟨nh_X12.1, nh_X12.2, pd_X12_no⟩, ⟨Nat.le_of_ble_eq_true rfl, Nat.le_of_ble_eq_true rfl⟩, rfl, rfl⟩, w_968, w_970, w_13⟩
theorem s_X12_days_61 : SiteV M_X12_days M_X12_children 61 0 0 0 := ⟨⟨w_913, w_54, ⟨nh_X12.1, nh_X12.2, pd_X12_children⟩, ⟨Nat.le_of_ble_eq_true rfl, Nat.le_of_ble_eq_true rfl⟩, rfl, rfl⟩, w_910, w_912, w_7⟩
theorem s_X12_days_152 : SiteV M_X12_days M_X12_all 152 0 0 0 := ⟨⟨w_983, w_54, ⟨nh_X12.1, nh_X12.2, pd_X12_all⟩, ⟨Nat.le_of_ble_eq_true rfl, Nat.le_of_ble_eq_true rfl⟩, rfl, rfl⟩, w_980, w_982, w_14⟩
theorem s_X12_days_155 : SiteV M_X12_days M_X12_layHand 155 1 0 0 := ⟨⟨w_987, w_54, ⟨nh_X12.1, nh_X12.2, pd_X12_layHand⟩, ⟨Nat.le_of_ble_eq_true rfl, Nat.le_of_ble_eq_true rfl⟩, rfl, rfl⟩, w_984, w_986, w_15⟩
theorem pd_X12_thereFrom : (parseMethodDescriptor M_X12_thereFrom.1.desc).map (fun d => d.parameters.length) = some 1 := by decide +kernel
theorem s_X12_days_165 : SiteV M_X12_days M_X12_thereFrom 165 1 0 0 := ⟨⟨w_1045, w_54, ⟨nh_X12.1, nh_X12.2, pd_X12_thereFrom⟩, ⟨Nat.le_of_ble_eq_true rfl, Nat.le_of_ble_eq_true rfl⟩, rfl, rfl⟩, w_1042, w_1044, w_24⟩
theorem pd_X12_fraction : (parseMethodDescriptor M_X12_fraction.1.desc).map (fun d => d.parameters.length) = some 2 := by decide +kernel
theorem s_X12_days_219 : SiteV M_X12_days M_X12_fraction 219 2 0 0 := ⟨⟨w_1149, w_54, ⟨nh_X12.1, nh_X12.2, pd_X12_fraction⟩, ⟨Nat.le_of_ble_eq_true rfl, Nat.le_of_ble_eq_true rfl⟩, rfl, rfl⟩, w_1146, w_1148, w_32⟩
theorem s_X12_dolls_61 : SiteV M_X12_dolls M_X12_children 61 0 0 0 := ⟨⟨w_913, w_54, ⟨nh_X12.1, nh_X12.2, pd_X12_children⟩, ⟨Nat.le_of_ble_eq_true rfl, Nat.le_of_ble_eq_true rfl⟩, rfl, rfl⟩, w_910, w_912, w_7⟩
theorem s_X12_dolls_152 : SiteV M_X12_dolls M_X12_all 152 0 0 0 := ⟨⟨w_983, w_54, ⟨nh_X12.1, nh_X12.2, pd_X12_all⟩, ⟨Nat.le_of_ble_eq_true rfl, Nat.le_of_ble_eq_true rfl⟩, rfl, rfl⟩, w_980, w_982, w_14⟩
theorem s_X12_dolls_155 : SiteV M_X12_dolls M_X12_layHand 155 1 0 0 := ⟨⟨w_987, w_54, ⟨nh_X12.1, nh_X12.2, pd_X12_layHand⟩, ⟨Nat.le_of_ble_eq_true rfl, Nat.le_of_ble_eq_true rfl⟩, rfl, rfl⟩, w_984, w_986, w_15⟩
theorem pd_X12_areSo : (parseMethodDescriptor M_X12_areSo.1.desc).map (fun d => d.parameters.length) = some 0 := by decide +kernel
theorem s_X12_dolls_195 : SiteV M_X12_dolls M_X12_areSo 195 0 0 0 := ⟨⟨w_1122, w_54, ⟨nh_X12.1, nh_X12.2, pd_X12_areSo⟩, ⟨Nat.le_of_ble_eq_true rfl, Nat.le_of_ble_eq_true rfl⟩, rfl, rfl⟩, w_1119, w_1121, w_30⟩
theorem s_X12_layGets_165 : SiteV M_X12_layGets M_X12_thereFrom 165 1 0 0 := ⟨⟨w_1045, w_54, ⟨nh_X12.1, nh_X12.2, pd_X12_thereFrom⟩, ⟨Nat.le_of_ble_eq_true rfl, Nat.le_of_ble_eq_true rfl⟩, rfl, rfl⟩, w_1042, w_1044, w_24⟩
theorem s_X12_look_149 : SiteS M_X12_look M_X12_isMinute 149 1 0 0 := ⟨⟨w_978, w_54, ⟨nh_X12.1, nh_X12.2, pd_X12_isMinute⟩, ⟨Nat.le_of_ble_eq_true rfl, Nat.le_of_ble_eq_true rfl⟩, rfl, rfl⟩, w_976, w_977⟩
theorem s_X12_look_75 : SiteV M_X12_look M_X12_bad 75 1 0 0 := ⟨⟨w_909, w_54, ⟨nh_X12.1, nh_X12.2, pd_X12_bad⟩, ⟨Nat.le_of_ble_eq_true rfl, Nat.le_of_ble_eq_true rfl⟩, rfl, rfl⟩, w_906, w_908, w_6⟩
theorem s_X12_look_152 : SiteV M_X12_look M_X12_all 152 0 0 0 := ⟨⟨w_983, w_54, ⟨nh_X12.1, nh_X12.2, pd_X12_all⟩, ⟨Nat.le_of_ble_eq_true rfl, Nat.le_of_ble_eq_true rfl⟩, rfl, rfl⟩, w_980, w_982, w_14⟩
theorem s_X12_look_155 : SiteV M_X12_look M_X12_layHand 155 1 0 0 := ⟨⟨w_987, w_54, ⟨nh_X12.1, nh_X12.2, pd_X12_layHand⟩, ⟨Nat.le_of_ble_eq_true rfl, Nat.le_of_ble_eq_true rfl⟩, rfl, rfl⟩, w_984, w_986, w_15⟩
theorem s_X12_look_195 : SiteV M_X12_look M_X12_areSo 195 0 0 0 := ⟨⟨w_1122, w_54, ⟨nh_X12.1, nh_X12.2, pd_X12_areSo⟩, ⟨Nat.le_of_ble_eq_true rfl, Nat.le_of_ble_eq_true rfl⟩, rfl, rfl⟩, w_1119, w_1121, w_30⟩
theorem pd_X12_mostLike : (parseMethodDescriptor M_X12_mostLike.1.desc).map (fun d => d.parameters.length) = some 2 := by decide +kernel
theorem s_X12_look_199 : SiteV M_X12_look M_X12_mostLike 199 2 0 0 := ⟨⟨w_1130, w_54, ⟨nh_X12.1, nh_X12.2, pd_X12_mostLike⟩, ⟨Nat.le_of_ble_eq_true rfl, Nat.le_of_ble_eq_true rfl⟩, rfl, rfl⟩, w_1127, w_1129, w_31⟩
theorem s_X12_look_119 : SiteS M_X12_look M_X12_least 119 2 0 0 := ⟨⟨w_1002, w_54, ⟨nh_X12.1, nh_X12.2, pd_X12_least⟩, ⟨Nat.le_of_ble_eq_true rfl, Nat.le_of_ble_eq_true rfl⟩, rfl, rfl⟩, w_1000, w_1001⟩
theorem s_X12_move_149 : SiteS M_X12_move M_X12_isMinute 149 1 0 0 := ⟨⟨w_978, w_54, ⟨nh_X12.1, nh_X12.2, pd_X12_isMinute⟩, ⟨Nat.le_of_ble_eq_true rfl, Nat.le_of_ble_eq_true rfl⟩, rfl, rfl⟩, w_976, w_977⟩
theorem s_X12_move_75 : SiteV M_X12_move M_X12_bad 75 1 0 0 := ⟨⟨w_909, w_54, ⟨nh_X12.1, nh_X12.2, pd_X12_bad⟩, ⟨Nat.le_of_ble_eq_true rfl, Nat.le_of_ble_eq_true rfl⟩, rfl, rfl⟩, w_906, w_908, w_6⟩
theorem s_X12_move_152 : SiteV M_X12_move M_X12_all 152 0 0 0 := ⟨⟨w_983, w_54, ⟨nh_X12.1, nh_X12.2, pd_X12_all⟩, ⟨Nat.le_of_ble_eq_true rfl, Nat.le_of_ble_eq_true rfl⟩, rfl, rfl⟩, w_980, w_982, w_14⟩
theorem s_X12_move_155 : SiteV M_X12_move M_X12_layHand 155 1 0 0 := ⟨⟨w_987, w_54, ⟨nh_X12.1, nh_X12.2, pd_X12_layHand⟩, ⟨Nat.le_of_ble_eq_true rfl, Nat.le_of_ble_eq_true rfl⟩, rfl, rfl⟩, w_984, w_986, w_15⟩
theorem s_X12_move_165 : SiteV M_X12_move M_X12_thereFrom 165 1 0 0 := ⟨⟨w_1045, w_54, ⟨nh_X12.1, nh_X12.2, pd_X12_thereFrom⟩, ⟨Nat.le_of_ble_eq_true rfl, Nat.le_of_ble_eq_true rfl⟩, rfl, rfl⟩, w_1042, w_1044, w_24⟩
theorem s_X12_move_61 : SiteV M_X12_move M_X12_children 61 0 0 0 := ⟨⟨w_913, w_54, ⟨nh_X12.1, nh_X12.2, pd_X12_children⟩, ⟨Nat.le_of_ble_eq_true rfl, Nat.le_of_ble_eq_true rfl⟩, rfl, rfl⟩, w_910, w_912, w_7⟩
theorem s_X12_move_119 : SiteS M_X12_move M_X12_least 119 2 0 0 := ⟨⟨w_1002, w_54, ⟨nh_X12.1, nh_X12.2, pd_X12_least⟩, ⟨Nat.le_of_ble_eq_true rfl, Nat.le_of_ble_eq_true rfl⟩, rfl, rfl⟩, w_1000, w_1001⟩
theorem s_X12_move_98 : SiteV M_X12_move M_X12_get 98 2 0 0 := ⟨⟨w_955, w_54, ⟨nh_X12.1, nh_X12.2, pd_X12_get⟩, ⟨Nat.le_of_ble_eq_true rfl, Nat.le_of_ble_eq_true rfl⟩, rfl, rfl⟩, w_952, w_954, w_11⟩
theorem s_X12_out_65 : SiteS M_X12_out M_X12_in 65 3 0 0 := ⟨⟨w_904, w_54, ⟨nh_X12.1, nh_X12.2, pd_X12_in⟩, ⟨Nat.le_of_ble_eq_true rfl, Nat.le_of_ble_eq_true rfl⟩, rfl, rfl⟩, w_902, w_903⟩
theorem s_X12_out_75 : SiteV M_X12_out M_X12_bad 75 1 0 0 := ⟨⟨w_909, w_54, ⟨nh_X12.1, nh_X12.2, pd_X12_bad⟩, ⟨Nat.le_of_ble_eq_true rfl, Nat.le_of_ble_eq_true rfl⟩, rfl, rfl⟩, w_906, w_908, w_6⟩
theorem s_X12_out_152 : SiteV M_X12_out M_X12_all 152 0 0 0 := ⟨⟨w_983, w_54, ⟨nh_X12.1, nh_X12.2, pd_X12_all⟩, ⟨Nat.le_of_ble_eq_true rfl, Nat.le_of_ble_eq_true rfl⟩, rfl, rfl⟩, w_980, w_982, w_14⟩
theorem s_X12_out_155 : SiteV M_X12_out M_X12_layHand 155 1 0 0 := ⟨⟨w_987, w_54, ⟨nh_X12.1, nh_X12.2, pd_X12_layHand⟩, ⟨Nat.le_of_ble_eq_true rfl, Nat.le_of_ble_eq_true rfl⟩, rfl, rfl⟩, w_984, w_986, w_15⟩
theorem s_X12_out_195 : SiteV M_X12_out M_X12_areSo 195 0 0 0 := ⟨⟨w_1122, w_54, ⟨nh_X12.1, nh_X12.2, pd_X12_areSo⟩, ⟨Nat.le_of_ble_eq_true rfl, Nat.le_of_ble_eq_true rfl⟩, rfl, rfl⟩, w_1119, w_1121, w_30⟩
theorem s_X12_read_254 : SiteV M_X12_read M_X12_lookAt 254 1 0 0 := ⟨⟨w_1166, w_54, ⟨nh_X12.1, nh_X12.2, pd_X12_lookAt⟩, ⟨Nat.le_of_ble_eq_true rfl, Nat.le_of_ble_eq_true rfl⟩, rfl, rfl⟩, w_1163, w_1165, w_33⟩
theorem pd_X12_takesFirst : (parseMethodDescriptor M_X12_takesFirst.1.desc).map (fun d => d.parameters.length) = some 0 := by decide +kernel
theorem s_X12_read_267 : SiteV M_X12_read M_X12_takesFirst 267 0 0 0 := ⟨⟨w_1180, w_54, ⟨nh_X12.1, nh_X12.2, pd_X12_takesFirst⟩, ⟨Nat.le_of_ble_eq_true rfl, Nat.le_of_ble_eq_true rfl⟩, rfl, rfl⟩, w_1177, w_1179, w_34⟩
theorem s_X12_read_257 : SiteV M_X12_read M_X12_goBehind 257 0 0 0 := ⟨⟨w_1188, w_54, ⟨nh_X12.1, nh_X12.2, pd_X12_goBehind⟩, ⟨Nat.le_of_ble_eq_true rfl, Nat.le_of_ble_eq_true rfl⟩, rfl, rfl⟩, w_1185, w_1187, w_36⟩
theorem pd_X12_takesChild : (parseMethodDescriptor M_X12_takesChild.1.desc).map (fun d => d.parameters.length) = some 0 := by decide +kernel
theorem s_X12_read_270 : SiteV M_X12_read M_X12_takesChild 270 0 0 0 := ⟨⟨w_1196, w_54, ⟨nh_X12.1, nh_X12.2, pd_X12_takesChild⟩, ⟨Nat.le_of_ble_eq_true rfl, Nat.le_of_ble_eq_true rfl⟩, rfl, rfl⟩, w_1193, w_1195, w_38⟩
theorem pd_X12_goOn : (parseMethodDescriptor M_X12_goOn.1.desc).map (fun d => d.parameters.length) = some 1 := by decide +kernel
theorem s_X12_soonestFrom_171 : SiteV M_X12_soonestFrom M_X12_goOn 171 1 0 0 := ⟨⟨w_1060, w_54, ⟨nh_X12.1, nh_X12.2, pd_X12_goOn⟩, ⟨Nat.le_of_ble_eq_true rfl, Nat.le_of_ble_eq_true rfl⟩, rfl, rfl⟩, w_1057, w_1059, w_26⟩
theorem s_X12_start_149 : SiteS M_X12_start M_X12_isMinute 149 1 0 0 := ⟨⟨w_978, w_54, ⟨nh_X12.1, nh_X12.2, pd_X12_isMinute⟩, ⟨Nat.le_of_ble_eq_true rfl, Nat.le_of_ble_eq_true rfl⟩, rfl, rfl⟩, w_976, w_977⟩
theorem s_X12_start_75 : SiteV M_X12_start M_X12_bad 75 1 0 0 := ⟨⟨w_909, w_54, ⟨nh_X12.1, nh_X12.2, pd_X12_bad⟩, ⟨Nat.le_of_ble_eq_true rfl, Nat.le_of_ble_eq_true rfl⟩, rfl, rfl⟩, w_906, w_908, w_6⟩
theorem s_X12_start_152 : SiteV M_X12_start M_X12_all 152 0 0 0 := ⟨⟨w_983, w_54, ⟨nh_X12.1, nh_X12.2, pd_X12_all⟩, ⟨Nat.le_of_ble_eq_true rfl, Nat.le_of_ble_eq_true rfl⟩, rfl, rfl⟩, w_980, w_982, w_14⟩
theorem s_X12_start_155 : SiteV M_X12_start M_X12_layHand 155 1 0 0 := ⟨⟨w_987, w_54, ⟨nh_X12.1, nh_X12.2, pd_X12_layHand⟩, ⟨Nat.le_of_ble_eq_true rfl, Nat.le_of_ble_eq_true rfl⟩, rfl, rfl⟩, w_984, w_986, w_15⟩
theorem s_X12_start_165 : SiteV M_X12_start M_X12_thereFrom 165 1 0 0 := ⟨⟨w_1045, w_54, ⟨nh_X12.1, nh_X12.2, pd_X12_thereFrom⟩, ⟨Nat.le_of_ble_eq_true rfl, Nat.le_of_ble_eq_true rfl⟩, rfl, rfl⟩, w_1042, w_1044, w_24⟩
theorem s_X12_start_119 : SiteS M_X12_start M_X12_least 119 2 0 0 := ⟨⟨w_1002, w_54, ⟨nh_X12.1, nh_X12.2, pd_X12_least⟩, ⟨Nat.le_of_ble_eq_true rfl, Nat.le_of_ble_eq_true rfl⟩, rfl, rfl⟩, w_1000, w_1001⟩
theorem s_X12_there_149 : SiteS M_X12_there M_X12_isMinute 149 1 0 0 := ⟨⟨w_978, w_54, ⟨nh_X12.1, nh_X12.2, pd_X12_isMinute⟩, ⟨Nat.le_of_ble_eq_true rfl, Nat.le_of_ble_eq_true rfl⟩, rfl, rfl⟩, w_976, w_977⟩
theorem s_X12_there_75 : SiteV M_X12_there M_X12_bad 75 1 0 0 := ⟨⟨w_909, w_54, ⟨nh_X12.1, nh_X12.2, pd_X12_bad⟩, ⟨Nat.le_of_ble_eq_true rfl, Nat.le_of_ble_eq_true rfl⟩, rfl, rfl⟩, w_906, w_908, w_6⟩
theorem s_X12_there_152 : SiteV M_X12_there M_X12_all 152 0 0 0 := ⟨⟨w_983, w_54, ⟨nh_X12.1, nh_X12.2, pd_X12_all⟩, ⟨Nat.le_of_ble_eq_true rfl, Nat.le_of_ble_eq_true rfl⟩, rfl, rfl⟩, w_980, w_982, w_14⟩
theorem s_X12_there_155 : SiteV M_X12_there M_X12_layHand 155 1 0 0 := ⟨⟨w_987, w_54, ⟨nh_X12.1, nh_X12.2, pd_X12_layHand⟩, ⟨Nat.le_of_ble_eq_true rfl, Nat.le_of_ble_eq_true rfl⟩, rfl, rfl⟩, w_984, w_986, w_15⟩
theorem s_X12_there_165 : SiteV M_X12_there M_X12_thereFrom 165 1 0 0 := ⟨⟨w_1045, w_54, ⟨nh_X12.1, nh_X12.2, pd_X12_thereFrom⟩, ⟨Nat.le_of_ble_eq_true rfl, Nat.le_of_ble_eq_true rfl⟩, rfl, rfl⟩, w_1042, w_1044, w_24⟩
theorem pd_X12_orNone : (parseMethodDescriptor M_X12_orNone.1.desc).map (fun d => d.parameters.length) = some 1 := by decide +kernel
theorem s_X12_there_168 : SiteS M_X12_there M_X12_orNone 168 1 0 0 := ⟨⟨w_1048, w_54, ⟨nh_X12.1, nh_X12.2, pd_X12_orNone⟩, ⟨Nat.le_of_ble_eq_true rfl, Nat.le_of_ble_eq_true rfl⟩, rfl, rfl⟩, w_1046, w_1047⟩
theorem s_X12_where_149 : SiteS M_X12_where M_X12_isMinute 149 1 0 0 := ⟨⟨w_978, w_54, ⟨nh_X12.1, nh_X12.2, pd_X12_isMinute⟩, ⟨Nat.le_of_ble_eq_true rfl, Nat.le_of_ble_eq_true rfl⟩, rfl, rfl⟩, w_976, w_977⟩
theorem s_X12_where_65 : SiteS M_X12_where M_X12_in 65 3 0 0 := ⟨⟨w_904, w_54, ⟨nh_X12.1, nh_X12.2, pd_X12_in⟩, ⟨Nat.le_of_ble_eq_true rfl, Nat.le_of_ble_eq_true rfl⟩, rfl, rfl⟩, w_902, w_903⟩
theorem s_X12_where_75 : SiteV M_X12_where M_X12_bad 75 1 0 0 := ⟨⟨w_909, w_54, ⟨nh_X12.1, nh_X12.2, pd_X12_bad⟩, ⟨Nat.le_of_ble_eq_true rfl, Nat.le_of_ble_eq_true rfl⟩, rfl, rfl⟩, w_906, w_908, w_6⟩
theorem s_X12_where_152 : SiteV M_X12_where M_X12_all 152 0 0 0 := ⟨⟨w_983, w_54, ⟨nh_X12.1, nh_X12.2, pd_X12_all⟩, ⟨Nat.le_of_ble_eq_true rfl, Nat.le_of_ble_eq_true rfl⟩, rfl, rfl⟩, w_980, w_982, w_14⟩
theorem s_X12_where_155 : SiteV M_X12_where M_X12_layHand 155 1 0 0 := ⟨⟨w_987, w_54, ⟨nh_X12.1, nh_X12.2, pd_X12_layHand⟩, ⟨Nat.le_of_ble_eq_true rfl, Nat.le_of_ble_eq_true rfl⟩, rfl, rfl⟩, w_984, w_986, w_15⟩
theorem pd_X12_whereAt : (parseMethodDescriptor M_X12_whereAt.1.desc).map (fun d => d.parameters.length) = some 2 := by decide +kernel
theorem s_X12_where_162 : SiteV M_X12_where M_X12_whereAt 162 2 0 0 := ⟨⟨w_1037, w_54, ⟨nh_X12.1, nh_X12.2, pd_X12_whereAt⟩, ⟨Nat.le_of_ble_eq_true rfl, Nat.le_of_ble_eq_true rfl⟩, rfl, rfl⟩, w_1034, w_1036, w_23⟩
theorem pd_X7_readWord : (parseMethodDescriptor M_X7_readWord.1.desc).map (fun d => d.parameters.length) = some 1 := by decide +kernel
theorem s_X7_readChildItem_35 : SiteV M_X7_readChildItem M_X7_readWord 35 1 0 0 := ⟨⟨w_432, w_44, ⟨nh_X7.1, nh_X7.2, pd_X7_readWord⟩, ⟨Nat.le_of_ble_eq_true rfl, Nat.le_of_ble_eq_true rfl⟩, rfl, rfl⟩, w_429, w_430, w_431⟩
theorem pd_X7_readNumber : (parseMethodDescriptor M_X7_readNumber.1.desc).map (fun d => d.parameters.length) = some 2 := by decide +kernel
theorem s_X7_readChildItem_39 : SiteV M_X7_readChildItem M_X7_readNumber 39 2 0 0 := ⟨⟨w_488, w_44, ⟨nh_X7.1, nh_X7.2, pd_X7_readNumber⟩, ⟨Nat.le_of_ble_eq_true rfl, Nat.le_of_ble_eq_true rfl⟩, rfl, rfl⟩, w_485, w_486, w_487⟩
theorem pd_X7_readSemicolon : (parseMethodDescriptor M_X7_readSemicolon.1.desc).map (fun d => d.parameters.length) = some 0 := by decide +kernel
theorem s_X7_readChildItem_43 : SiteV M_X7_readChildItem M_X7_readSemicolon 43 0 0 0 := ⟨⟨w_492, w_44, ⟨nh_X7.1, nh_X7.2, pd_X7_readSemicolon⟩, ⟨Nat.le_of_ble_eq_true rfl, Nat.le_of_ble_eq_true rfl⟩, rfl, rfl⟩, w_489, w_490, w_491⟩
theorem s_X7_readChildItem_54 : SiteV M_X7_readChildItem M_X6_addChild 54 5 0 0 := ⟨⟨w_368, w_43, ⟨nh_X6.1, nh_X6.2, pd_X6_addChild⟩, ⟨Nat.le_of_ble_eq_true rfl, Nat.le_of_ble_eq_true rfl⟩, rfl, rfl⟩, w_499, w_366, w_367⟩
theorem s_X7_readRoadItem_35 : SiteV M_X7_readRoadItem M_X7_readWord 35 1 0 0 := ⟨⟨w_432, w_44, ⟨nh_X7.1, nh_X7.2, pd_X7_readWord⟩, ⟨Nat.le_of_ble_eq_true rfl, Nat.le_of_ble_eq_true rfl⟩, rfl, rfl⟩, w_429, w_430, w_431⟩
theorem s_X7_readRoadItem_39 : SiteV M_X7_readRoadItem M_X7_readNumber 39 2 0 0 := ⟨⟨w_488, w_44, ⟨nh_X7.1, nh_X7.2, pd_X7_readNumber⟩, ⟨Nat.le_of_ble_eq_true rfl, Nat.le_of_ble_eq_true rfl⟩, rfl, rfl⟩, w_485, w_486, w_487⟩
theorem s_X7_readRoadItem_43 : SiteV M_X7_readRoadItem M_X7_readSemicolon 43 0 0 0 := ⟨⟨w_492, w_44, ⟨nh_X7.1, nh_X7.2, pd_X7_readSemicolon⟩, ⟨Nat.le_of_ble_eq_true rfl, Nat.le_of_ble_eq_true rfl⟩, rfl, rfl⟩, w_489, w_490, w_491⟩
theorem s_X7_readRoadItem_46 : SiteV M_X7_readRoadItem M_X6_begin 46 2 0 0 := ⟨⟨w_345, w_43, ⟨nh_X6.1, nh_X6.2, pd_X6_begin⟩, ⟨Nat.le_of_ble_eq_true rfl, Nat.le_of_ble_eq_true rfl⟩, rfl, rfl⟩, w_493, w_343, w_344⟩
theorem s_X12_carters_65 : SiteS M_X12_carters M_X12_in 65 3 0 0 := ⟨⟨w_904, w_54, ⟨nh_X12.1, nh_X12.2, pd_X12_in⟩, ⟨Nat.le_of_ble_eq_true rfl, Nat.le_of_ble_eq_true rfl⟩, rfl, rfl⟩, w_902, w_903⟩
theorem s_X12_carters_75 : SiteV M_X12_carters M_X12_bad 75 1 0 0 := ⟨⟨w_909, w_54, ⟨nh_X12.1, nh_X12.2, pd_X12_bad⟩, ⟨Nat.le_of_ble_eq_true rfl, Nat.le_of_ble_eq_true rfl⟩, rfl, rfl⟩, w_906, w_908, w_6⟩
theorem s_X12_carters_152 : SiteV M_X12_carters M_X12_all 152 0 0 0 := ⟨⟨w_983, w_54, ⟨nh_X12.1, nh_X12.2, pd_X12_all⟩, ⟨Nat.le_of_ble_eq_true rfl, Nat.le_of_ble_eq_true rfl⟩, rfl, rfl⟩, w_980, w_982, w_14⟩
theorem s_X12_carters_155 : SiteV M_X12_carters M_X12_layHand 155 1 0 0 := ⟨⟨w_987, w_54, ⟨nh_X12.1, nh_X12.2, pd_X12_layHand⟩, ⟨Nat.le_of_ble_eq_true rfl, Nat.le_of_ble_eq_true rfl⟩, rfl, rfl⟩, w_984, w_986, w_15⟩
theorem pd_X12_layGets : (parseMethodDescriptor M_X12_layGets.1.desc).map (fun d => d.parameters.length) = some 1 := by decide +kernel
theorem s_X12_carters_189 : SiteV M_X12_carters M_X12_layGets 189 1 0 0 := ⟨⟨w_1102, w_54, ⟨nh_X12.1, nh_X12.2, pd_X12_layGets⟩, ⟨Nat.le_of_ble_eq_true rfl, Nat.le_of_ble_eq_true rfl⟩, rfl, rfl⟩, w_1099, w_1101, w_28⟩
theorem pd_X12_rests : (parseMethodDescriptor M_X12_rests.1.desc).map (fun d => d.parameters.length) = some 2 := by decide +kernel
theorem s_X12_carters_192 : SiteV M_X12_carters M_X12_rests 192 2 0 0 := ⟨⟨w_1106, w_54, ⟨nh_X12.1, nh_X12.2, pd_X12_rests⟩, ⟨Nat.le_of_ble_eq_true rfl, Nat.le_of_ble_eq_true rfl⟩, rfl, rfl⟩, w_1103, w_1105, w_29⟩
theorem s_X12_soonest_149 : SiteS M_X12_soonest M_X12_isMinute 149 1 0 0 := ⟨⟨w_978, w_54, ⟨nh_X12.1, nh_X12.2, pd_X12_isMinute⟩, ⟨Nat.le_of_ble_eq_true rfl, Nat.le_of_ble_eq_true rfl⟩, rfl, rfl⟩, w_976, w_977⟩
theorem s_X12_soonest_75 : SiteV M_X12_soonest M_X12_bad 75 1 0 0 := ⟨⟨w_909, w_54, ⟨nh_X12.1, nh_X12.2, pd_X12_bad⟩, ⟨Nat.le_of_ble_eq_true rfl, Nat.le_of_ble_eq_true rfl⟩, rfl, rfl⟩, w_906, w_908, w_6⟩
theorem s_X12_soonest_152 : SiteV M_X12_soonest M_X12_all 152 0 0 0 := ⟨⟨w_983, w_54, ⟨nh_X12.1, nh_X12.2, pd_X12_all⟩, ⟨Nat.le_of_ble_eq_true rfl, Nat.le_of_ble_eq_true rfl⟩, rfl, rfl⟩, w_980, w_982, w_14⟩
theorem s_X12_soonest_155 : SiteV M_X12_soonest M_X12_layHand 155 1 0 0 := ⟨⟨w_987, w_54, ⟨nh_X12.1, nh_X12.2, pd_X12_layHand⟩, ⟨Nat.le_of_ble_eq_true rfl, Nat.le_of_ble_eq_true rfl⟩, rfl, rfl⟩, w_984, w_986, w_15⟩
theorem pd_X12_soonestFrom : (parseMethodDescriptor M_X12_soonestFrom.1.desc).map (fun d => d.parameters.length) = some 1 := by decide +kernel
theorem s_X12_soonest_174 : SiteV M_X12_soonest M_X12_soonestFrom 174 1 0 0 := ⟨⟨w_1056, w_54, ⟨nh_X12.1, nh_X12.2, pd_X12_soonestFrom⟩, ⟨Nat.le_of_ble_eq_true rfl, Nat.le_of_ble_eq_true rfl⟩, rfl, rfl⟩, w_1053, w_1055, w_25⟩
theorem s_X12_soonest_168 : SiteS M_X12_soonest M_X12_orNone 168 1 0 0 := ⟨⟨w_1048, w_54, ⟨nh_X12.1, nh_X12.2, pd_X12_orNone⟩, ⟨Nat.le_of_ble_eq_true rfl, Nat.le_of_ble_eq_true rfl⟩, rfl, rfl⟩, w_1046, w_1047⟩
theorem s_X12_toBed_149 : SiteS M_X12_toBed M_X12_isMinute 149 1 0 0 := ⟨⟨w_978, w_54, ⟨nh_X12.1, nh_X12.2, pd_X12_isMinute⟩, ⟨Nat.le_of_ble_eq_true rfl, Nat.le_of_ble_eq_true rfl⟩, rfl, rfl⟩, w_976, w_977⟩
theorem s_X12_toBed_65 : SiteS M_X12_toBed M_X12_in 65 3 0 0 := ⟨⟨w_904, w_54, ⟨nh_X12.1, nh_X12.2, pd_X12_in⟩, ⟨Nat.le_of_ble_eq_true rfl, Nat.le_of_ble_eq_true rfl⟩, rfl, rfl⟩, w_902, w_903⟩
theorem s_X12_toBed_75 : SiteV M_X12_toBed M_X12_bad 75 1 0 0 := ⟨⟨w_909, w_54, ⟨nh_X12.1, nh_X12.2, pd_X12_bad⟩, ⟨Nat.le_of_ble_eq_true rfl, Nat.le_of_ble_eq_true rfl⟩, rfl, rfl⟩, w_906, w_908, w_6⟩
theorem s_X12_toBed_152 : SiteV M_X12_toBed M_X12_all 152 0 0 0 := ⟨⟨w_983, w_54, ⟨nh_X12.1, nh_X12.2, pd_X12_all⟩, ⟨Nat.le_of_ble_eq_true rfl, Nat.le_of_ble_eq_true rfl⟩, rfl, rfl⟩, w_980, w_982, w_14⟩
theorem pd_X12_bits : (parseMethodDescriptor M_X12_bits.1.desc).map (fun d => d.parameters.length) = some 1 := by decide +kernel
theorem s_X12_toBed_184 : SiteS M_X12_toBed M_X12_bits 184 1 0 0 := ⟨⟨w_1089, w_54, ⟨nh_X12.1, nh_X12.2, pd_X12_bits⟩, ⟨Nat.le_of_ble_eq_true rfl, Nat.le_of_ble_eq_true rfl⟩, rfl, rfl⟩, w_1087, w_1088⟩
theorem s_X12_toBed_155 : SiteV M_X12_toBed M_X12_layHand 155 1 0 0 := ⟨⟨w_987, w_54, ⟨nh_X12.1, nh_X12.2, pd_X12_layHand⟩, ⟨Nat.le_of_ble_eq_true rfl, Nat.le_of_ble_eq_true rfl⟩, rfl, rfl⟩, w_984, w_986, w_15⟩
theorem s_X12_toBed_174 : SiteV M_X12_toBed M_X12_soonestFrom 174 1 0 0 := ⟨⟨w_1056, w_54, ⟨nh_X12.1, nh_X12.2, pd_X12_soonestFrom⟩, ⟨Nat.le_of_ble_eq_true rfl, Nat.le_of_ble_eq_true rfl⟩, rfl, rfl⟩, w_1053, w_1055, w_25⟩
theorem s_X7_readInto_22 : SiteV M_X7_readInto M_X7_isAtEnd 22 0 0 0 := ⟨⟨w_423, w_44, ⟨nh_X7.1, nh_X7.2, pd_X7_isAtEnd⟩, ⟨Nat.le_of_ble_eq_true rfl, Nat.le_of_ble_eq_true rfl⟩, rfl, rfl⟩, w_420, w_421, w_422⟩
theorem pd_X7_readRoadItem : (parseMethodDescriptor M_X7_readRoadItem.1.desc).map (fun d => d.parameters.length) = some 1 := by decide +kernel
theorem s_X7_readInto_26 : SiteV M_X7_readInto M_X7_readRoadItem 26 1 0 0 := ⟨⟨w_427, w_44, ⟨nh_X7.1, nh_X7.2, pd_X7_readRoadItem⟩, ⟨Nat.le_of_ble_eq_true rfl, Nat.le_of_ble_eq_true rfl⟩, rfl, rfl⟩, w_424, w_425, w_426⟩
theorem pd_X7_readChildItem : (parseMethodDescriptor M_X7_readChildItem.1.desc).map (fun d => d.parameters.length) = some 1 := by decide +kernel
theorem s_X7_readInto_30 : SiteV M_X7_readInto M_X7_readChildItem 30 1 0 0 := ⟨⟨w_497, w_44, ⟨nh_X7.1, nh_X7.2, pd_X7_readChildItem⟩, ⟨Nat.le_of_ble_eq_true rfl, Nat.le_of_ble_eq_true rfl⟩, rfl, rfl⟩, w_494, w_495, w_496⟩
theorem pd_X7_readInto : (parseMethodDescriptor M_X7_readInto.1.desc).map (fun d => d.parameters.length) = some 1 := by decide +kernel
theorem s_X11_read_120 : SiteV M_X11_read M_X7_readInto 120 1 0 0 := ⟨⟨w_419, w_44, ⟨nh_X7.1, nh_X7.2, pd_X7_readInto⟩, ⟨Nat.le_of_ble_eq_true rfl, Nat.le_of_ble_eq_true rfl⟩, rfl, rfl⟩, w_416, w_417, w_418⟩
theorem s_X11_read_124 : SiteV M_X11_read M_X6_copyFrom 124 1 0 0 := ⟨⟨w_503, w_43, ⟨nh_X6.1, nh_X6.2, pd_X6_copyFrom⟩, ⟨Nat.le_of_ble_eq_true rfl, Nat.le_of_ble_eq_true rfl⟩, rfl, rfl⟩, w_500, w_501, w_502⟩
theorem n_law_7 : NSite "SmallestSpeedLaw" 7 11 15 [.null, .null, .null, .null, .int 0, .int 0, .null, .null, .null, .null, .int 0, .int 0, .int 0, .int 0, .int 0] := ⟨RX11, TX11, tyX11, rfl, i_X11, tyX11_ok, w_63, w_64, w_42, by decide +kernel, by decide +kernel⟩
theorem n_law_10 : NSite "SmallestSpeedLaw" 10 12 22 [.null, .null, .null, .null, .long 0, .long 0, .null, .null, .int 0, .null, .null, .null, .null, .null, .null, .int 0, .int 0, .int 0, .int 0, .int 0, .null, .null] := ⟨RX12, TX12, tyX12, rfl, i_X12, tyX12_ok, w_821, w_822, w_54, by decide +kernel, by decide +kernel⟩
theorem pd_X11_init : (parseMethodDescriptor M_X11_init.1.desc).map (fun d => d.parameters.length) = some 0 := by decide +kernel
theorem s_L_law_9 : SiteI M_L_law M_X11_init 9 0 85 673 := ⟨⟨w_67, w_42, ⟨nh_X11.1, nh_X11.2, pd_X11_init⟩, ⟨Nat.le_of_ble_eq_true rfl, Nat.le_of_ble_eq_true rfl⟩, rfl, rfl⟩, rfl, by decide +kernel, w_66, w_65⟩
theorem pd_X12_init : (parseMethodDescriptor M_X12_init.1.desc).map (fun d => d.parameters.length) = some 0 := by decide +kernel
theorem s_L_law_12 : SiteI M_L_law M_X12_init 12 0 14 962 := ⟨⟨w_825, w_54, ⟨nh_X12.1, nh_X12.2, pd_X12_init⟩, ⟨Nat.le_of_ble_eq_true rfl, Nat.le_of_ble_eq_true rfl⟩, rfl, rfl⟩, rfl, by decide +kernel, w_824, w_823⟩
theorem pd_X11_road : (parseMethodDescriptor M_X11_road.1.desc).map (fun d => d.parameters.length) = some 2 := by decide +kernel
theorem s_L_law_13 : SiteV M_L_law M_X11_road 13 2 0 0 := ⟨⟨w_334, w_42, ⟨nh_X11.1, nh_X11.2, pd_X11_road⟩, ⟨Nat.le_of_ble_eq_true rfl, Nat.le_of_ble_eq_true rfl⟩, rfl, rfl⟩, w_331, w_332, w_333⟩
theorem pd_X12_road : (parseMethodDescriptor M_X12_road.1.desc).map (fun d => d.parameters.length) = some 2 := by decide +kernel
theorem s_L_law_17 : SiteV M_L_law M_X12_road 17 2 0 0 := ⟨⟨w_900, w_54, ⟨nh_X12.1, nh_X12.2, pd_X12_road⟩, ⟨Nat.le_of_ble_eq_true rfl, Nat.le_of_ble_eq_true rfl⟩, rfl, rfl⟩, w_897, w_898, w_899⟩
theorem pd_X11_rule : (parseMethodDescriptor M_X11_rule.1.desc).map (fun d => d.parameters.length) = some 1 := by decide +kernel
theorem s_L_law_18 : SiteV M_L_law M_X11_rule 18 1 0 0 := ⟨⟨w_349, w_42, ⟨nh_X11.1, nh_X11.2, pd_X11_rule⟩, ⟨Nat.le_of_ble_eq_true rfl, Nat.le_of_ble_eq_true rfl⟩, rfl, rfl⟩, w_346, w_347, w_348⟩
theorem pd_X12_rule : (parseMethodDescriptor M_X12_rule.1.desc).map (fun d => d.parameters.length) = some 1 := by decide +kernel
theorem s_L_law_22 : SiteV M_L_law M_X12_rule 22 1 0 0 := ⟨⟨w_917, w_54, ⟨nh_X12.1, nh_X12.2, pd_X12_rule⟩, ⟨Nat.le_of_ble_eq_true rfl, Nat.le_of_ble_eq_true rfl⟩, rfl, rfl⟩, w_914, w_915, w_916⟩
theorem pd_X11_sight : (parseMethodDescriptor M_X11_sight.1.desc).map (fun d => d.parameters.length) = some 1 := by decide +kernel
theorem s_L_law_23 : SiteV M_L_law M_X11_sight 23 1 0 0 := ⟨⟨w_353, w_42, ⟨nh_X11.1, nh_X11.2, pd_X11_sight⟩, ⟨Nat.le_of_ble_eq_true rfl, Nat.le_of_ble_eq_true rfl⟩, rfl, rfl⟩, w_350, w_351, w_352⟩
theorem pd_X12_sight : (parseMethodDescriptor M_X12_sight.1.desc).map (fun d => d.parameters.length) = some 1 := by decide +kernel
theorem s_L_law_26 : SiteV M_L_law M_X12_sight 26 1 0 0 := ⟨⟨w_921, w_54, ⟨nh_X12.1, nh_X12.2, pd_X12_sight⟩, ⟨Nat.le_of_ble_eq_true rfl, Nat.le_of_ble_eq_true rfl⟩, rfl, rfl⟩, w_918, w_919, w_920⟩
theorem pd_X11_child : (parseMethodDescriptor M_X11_child.1.desc).map (fun d => d.parameters.length) = some 5 := by decide +kernel
theorem s_L_law_27 : SiteV M_L_law M_X11_child 27 5 0 0 := ⟨⟨w_357, w_42, ⟨nh_X11.1, nh_X11.2, pd_X11_child⟩, ⟨Nat.le_of_ble_eq_true rfl, Nat.le_of_ble_eq_true rfl⟩, rfl, rfl⟩, w_354, w_355, w_356⟩
theorem pd_X12_child : (parseMethodDescriptor M_X12_child.1.desc).map (fun d => d.parameters.length) = some 5 := by decide +kernel
theorem s_L_law_31 : SiteV M_L_law M_X12_child 31 5 0 0 := ⟨⟨w_925, w_54, ⟨nh_X12.1, nh_X12.2, pd_X12_child⟩, ⟨Nat.le_of_ble_eq_true rfl, Nat.le_of_ble_eq_true rfl⟩, rfl, rfl⟩, w_922, w_923, w_924⟩
theorem pd_X11_stand : (parseMethodDescriptor M_X11_stand.1.desc).map (fun d => d.parameters.length) = some 2 := by decide +kernel
theorem s_L_law_32 : SiteV M_L_law M_X11_stand 32 2 0 0 := ⟨⟨w_372, w_42, ⟨nh_X11.1, nh_X11.2, pd_X11_stand⟩, ⟨Nat.le_of_ble_eq_true rfl, Nat.le_of_ble_eq_true rfl⟩, rfl, rfl⟩, w_369, w_370, w_371⟩
theorem pd_X12_stand : (parseMethodDescriptor M_X12_stand.1.desc).map (fun d => d.parameters.length) = some 2 := by decide +kernel
theorem s_L_law_35 : SiteV M_L_law M_X12_stand 35 2 0 0 := ⟨⟨w_943, w_54, ⟨nh_X12.1, nh_X12.2, pd_X12_stand⟩, ⟨Nat.le_of_ble_eq_true rfl, Nat.le_of_ble_eq_true rfl⟩, rfl, rfl⟩, w_940, w_941, w_942⟩
theorem pd_X11_bed : (parseMethodDescriptor M_X11_bed.1.desc).map (fun d => d.parameters.length) = some 2 := by decide +kernel
theorem s_L_law_36 : SiteV M_L_law M_X11_bed 36 2 0 0 := ⟨⟨w_387, w_42, ⟨nh_X11.1, nh_X11.2, pd_X11_bed⟩, ⟨Nat.le_of_ble_eq_true rfl, Nat.le_of_ble_eq_true rfl⟩, rfl, rfl⟩, w_384, w_385, w_386⟩
theorem pd_X12_bed : (parseMethodDescriptor M_X12_bed.1.desc).map (fun d => d.parameters.length) = some 2 := by decide +kernel
theorem s_L_law_39 : SiteV M_L_law M_X12_bed 39 2 0 0 := ⟨⟨w_963, w_54, ⟨nh_X12.1, nh_X12.2, pd_X12_bed⟩, ⟨Nat.le_of_ble_eq_true rfl, Nat.le_of_ble_eq_true rfl⟩, rfl, rfl⟩, w_960, w_961, w_962⟩
theorem pd_X11_undo : (parseMethodDescriptor M_X11_undo.1.desc).map (fun d => d.parameters.length) = some 0 := by decide +kernel
theorem s_L_law_40 : SiteV M_L_law M_X11_undo 40 0 0 0 := ⟨⟨w_391, w_42, ⟨nh_X11.1, nh_X11.2, pd_X11_undo⟩, ⟨Nat.le_of_ble_eq_true rfl, Nat.le_of_ble_eq_true rfl⟩, rfl, rfl⟩, w_388, w_389, w_390⟩
theorem pd_X12_undo : (parseMethodDescriptor M_X12_undo.1.desc).map (fun d => d.parameters.length) = some 0 := by decide +kernel
theorem s_L_law_44 : SiteV M_L_law M_X12_undo 44 0 0 0 := ⟨⟨w_967, w_54, ⟨nh_X12.1, nh_X12.2, pd_X12_undo⟩, ⟨Nat.le_of_ble_eq_true rfl, Nat.le_of_ble_eq_true rfl⟩, rfl, rfl⟩, w_964, w_965, w_966⟩
theorem pd_X11_type : (parseMethodDescriptor M_X11_type.1.desc).map (fun d => d.parameters.length) = some 1 := by decide +kernel
theorem s_L_law_45 : SiteV M_L_law M_X11_type 45 1 0 0 := ⟨⟨w_403, w_42, ⟨nh_X11.1, nh_X11.2, pd_X11_type⟩, ⟨Nat.le_of_ble_eq_true rfl, Nat.le_of_ble_eq_true rfl⟩, rfl, rfl⟩, w_400, w_401, w_402⟩
theorem pd_X12_type : (parseMethodDescriptor M_X12_type.1.desc).map (fun d => d.parameters.length) = some 1 := by decide +kernel
theorem s_L_law_48 : SiteV M_L_law M_X12_type 48 1 0 0 := ⟨⟨w_1153, w_54, ⟨nh_X12.1, nh_X12.2, pd_X12_type⟩, ⟨Nat.le_of_ble_eq_true rfl, Nat.le_of_ble_eq_true rfl⟩, rfl, rfl⟩, w_1150, w_1151, w_1152⟩
theorem pd_X11_clear : (parseMethodDescriptor M_X11_clear.1.desc).map (fun d => d.parameters.length) = some 0 := by decide +kernel
theorem s_L_law_49 : SiteV M_L_law M_X11_clear 49 0 0 0 := ⟨⟨w_411, w_42, ⟨nh_X11.1, nh_X11.2, pd_X11_clear⟩, ⟨Nat.le_of_ble_eq_true rfl, Nat.le_of_ble_eq_true rfl⟩, rfl, rfl⟩, w_408, w_409, w_410⟩
theorem pd_X12_clear : (parseMethodDescriptor M_X12_clear.1.desc).map (fun d => d.parameters.length) = some 0 := by decide +kernel
theorem s_L_law_52 : SiteV M_L_law M_X12_clear 52 0 0 0 := ⟨⟨w_1158, w_54, ⟨nh_X12.1, nh_X12.2, pd_X12_clear⟩, ⟨Nat.le_of_ble_eq_true rfl, Nat.le_of_ble_eq_true rfl⟩, rfl, rfl⟩, w_1155, w_1156, w_1157⟩
theorem pd_X11_read : (parseMethodDescriptor M_X11_read.1.desc).map (fun d => d.parameters.length) = some 0 := by decide +kernel
theorem s_L_law_53 : SiteV M_L_law M_X11_read 53 0 0 0 := ⟨⟨w_415, w_42, ⟨nh_X11.1, nh_X11.2, pd_X11_read⟩, ⟨Nat.le_of_ble_eq_true rfl, Nat.le_of_ble_eq_true rfl⟩, rfl, rfl⟩, w_412, w_413, w_414⟩
theorem pd_X12_read : (parseMethodDescriptor M_X12_read.1.desc).map (fun d => d.parameters.length) = some 0 := by decide +kernel
theorem s_L_law_56 : SiteV M_L_law M_X12_read 56 0 0 0 := ⟨⟨w_1162, w_54, ⟨nh_X12.1, nh_X12.2, pd_X12_read⟩, ⟨Nat.le_of_ble_eq_true rfl, Nat.le_of_ble_eq_true rfl⟩, rfl, rfl⟩, w_1159, w_1160, w_1161⟩
theorem pd_X11_of : (parseMethodDescriptor M_X11_of.1.desc).map (fun d => d.parameters.length) = some 3 := by decide +kernel
theorem s_L_law_57 : SiteV M_L_law M_X11_of 57 3 0 0 := ⟨⟨w_508, w_42, ⟨nh_X11.1, nh_X11.2, pd_X11_of⟩, ⟨Nat.le_of_ble_eq_true rfl, Nat.le_of_ble_eq_true rfl⟩, rfl, rfl⟩, w_505, w_506, w_507⟩
theorem pd_X12_of : (parseMethodDescriptor M_X12_of.1.desc).map (fun d => d.parameters.length) = some 3 := by decide +kernel
theorem s_L_law_61 : SiteV M_L_law M_X12_of 61 3 0 0 := ⟨⟨w_975, w_54, ⟨nh_X12.1, nh_X12.2, pd_X12_of⟩, ⟨Nat.le_of_ble_eq_true rfl, Nat.le_of_ble_eq_true rfl⟩, rfl, rfl⟩, w_972, w_973, w_974⟩
theorem pd_X11_limit : (parseMethodDescriptor M_X11_limit.1.desc).map (fun d => d.parameters.length) = some 3 := by decide +kernel
theorem s_L_law_62 : SiteV M_L_law M_X11_limit 62 3 0 0 := ⟨⟨w_568, w_42, ⟨nh_X11.1, nh_X11.2, pd_X11_limit⟩, ⟨Nat.le_of_ble_eq_true rfl, Nat.le_of_ble_eq_true rfl⟩, rfl, rfl⟩, w_565, w_566, w_567⟩
theorem pd_X12_limit : (parseMethodDescriptor M_X12_limit.1.desc).map (fun d => d.parameters.length) = some 3 := by decide +kernel
theorem s_L_law_65 : SiteV M_L_law M_X12_limit 65 3 0 0 := ⟨⟨w_1009, w_54, ⟨nh_X12.1, nh_X12.2, pd_X12_limit⟩, ⟨Nat.le_of_ble_eq_true rfl, Nat.le_of_ble_eq_true rfl⟩, rfl, rfl⟩, w_1006, w_1007, w_1008⟩
theorem pd_X11_where : (parseMethodDescriptor M_X11_where.1.desc).map (fun d => d.parameters.length) = some 2 := by decide +kernel
theorem s_L_law_66 : SiteV M_L_law M_X11_where 66 2 0 0 := ⟨⟨w_608, w_42, ⟨nh_X11.1, nh_X11.2, pd_X11_where⟩, ⟨Nat.le_of_ble_eq_true rfl, Nat.le_of_ble_eq_true rfl⟩, rfl, rfl⟩, w_605, w_606, w_607⟩
theorem pd_X12_where : (parseMethodDescriptor M_X12_where.1.desc).map (fun d => d.parameters.length) = some 2 := by decide +kernel
theorem s_L_law_69 : SiteV M_L_law M_X12_where 69 2 0 0 := ⟨⟨w_1033, w_54, ⟨nh_X12.1, nh_X12.2, pd_X12_where⟩, ⟨Nat.le_of_ble_eq_true rfl, Nat.le_of_ble_eq_true rfl⟩, rfl, rfl⟩, w_1030, w_1031, w_1032⟩
theorem pd_X11_there : (parseMethodDescriptor M_X11_there.1.desc).map (fun d => d.parameters.length) = some 1 := by decide +kernel
theorem s_L_law_70 : SiteV M_L_law M_X11_there 70 1 0 0 := ⟨⟨w_620, w_42, ⟨nh_X11.1, nh_X11.2, pd_X11_there⟩, ⟨Nat.le_of_ble_eq_true rfl, Nat.le_of_ble_eq_true rfl⟩, rfl, rfl⟩, w_617, w_618, w_619⟩
theorem pd_X12_there : (parseMethodDescriptor M_X12_there.1.desc).map (fun d => d.parameters.length) = some 1 := by decide +kernel
theorem s_L_law_73 : SiteV M_L_law M_X12_there 73 1 0 0 := ⟨⟨w_1041, w_54, ⟨nh_X12.1, nh_X12.2, pd_X12_there⟩, ⟨Nat.le_of_ble_eq_true rfl, Nat.le_of_ble_eq_true rfl⟩, rfl, rfl⟩, w_1038, w_1039, w_1040⟩
theorem pd_X11_soonest : (parseMethodDescriptor M_X11_soonest.1.desc).map (fun d => d.parameters.length) = some 1 := by decide +kernel
theorem s_L_law_74 : SiteV M_L_law M_X11_soonest 74 1 0 0 := ⟨⟨w_631, w_42, ⟨nh_X11.1, nh_X11.2, pd_X11_soonest⟩, ⟨Nat.le_of_ble_eq_true rfl, Nat.le_of_ble_eq_true rfl⟩, rfl, rfl⟩, w_628, w_629, w_630⟩
theorem pd_X12_soonest : (parseMethodDescriptor M_X12_soonest.1.desc).map (fun d => d.parameters.length) = some 1 := by decide +kernel
theorem s_L_law_77 : SiteV M_L_law M_X12_soonest 77 1 0 0 := ⟨⟨w_1052, w_54, ⟨nh_X12.1, nh_X12.2, pd_X12_soonest⟩, ⟨Nat.le_of_ble_eq_true rfl, Nat.le_of_ble_eq_true rfl⟩, rfl, rfl⟩, w_1049, w_1050, w_1051⟩
theorem pd_X11_start : (parseMethodDescriptor M_X11_start.1.desc).map (fun d => d.parameters.length) = some 1 := by decide +kernel
theorem s_L_law_78 : SiteV M_L_law M_X11_start 78 1 0 0 := ⟨⟨w_640, w_42, ⟨nh_X11.1, nh_X11.2, pd_X11_start⟩, ⟨Nat.le_of_ble_eq_true rfl, Nat.le_of_ble_eq_true rfl⟩, rfl, rfl⟩, w_637, w_638, w_639⟩
theorem pd_X12_start : (parseMethodDescriptor M_X12_start.1.desc).map (fun d => d.parameters.length) = some 1 := by decide +kernel
theorem s_L_law_81 : SiteV M_L_law M_X12_start 81 1 0 0 := ⟨⟨w_1064, w_54, ⟨nh_X12.1, nh_X12.2, pd_X12_start⟩, ⟨Nat.le_of_ble_eq_true rfl, Nat.le_of_ble_eq_true rfl⟩, rfl, rfl⟩, w_1061, w_1062, w_1063⟩
theorem pd_X11_speed : (parseMethodDescriptor M_X11_speed.1.desc).map (fun d => d.parameters.length) = some 1 := by decide +kernel
theorem s_L_law_82 : SiteV M_L_law M_X11_speed 82 1 0 0 := ⟨⟨w_649, w_42, ⟨nh_X11.1, nh_X11.2, pd_X11_speed⟩, ⟨Nat.le_of_ble_eq_true rfl, Nat.le_of_ble_eq_true rfl⟩, rfl, rfl⟩, w_646, w_647, w_648⟩
theorem pd_X12_speed : (parseMethodDescriptor M_X12_speed.1.desc).map (fun d => d.parameters.length) = some 1 := by decide +kernel
theorem s_L_law_85 : SiteV M_L_law M_X12_speed 85 1 0 0 := ⟨⟨w_1068, w_54, ⟨nh_X12.1, nh_X12.2, pd_X12_speed⟩, ⟨Nat.le_of_ble_eq_true rfl, Nat.le_of_ble_eq_true rfl⟩, rfl, rfl⟩, w_1065, w_1066, w_1067⟩
theorem pd_X11_stop : (parseMethodDescriptor M_X11_stop.1.desc).map (fun d => d.parameters.length) = some 0 := by decide +kernel
theorem s_L_law_86 : SiteV M_L_law M_X11_stop 86 0 0 0 := ⟨⟨w_657, w_42, ⟨nh_X11.1, nh_X11.2, pd_X11_stop⟩, ⟨Nat.le_of_ble_eq_true rfl, Nat.le_of_ble_eq_true rfl⟩, rfl, rfl⟩, w_654, w_655, w_656⟩
theorem pd_X12_stop : (parseMethodDescriptor M_X12_stop.1.desc).map (fun d => d.parameters.length) = some 0 := by decide +kernel
theorem s_L_law_89 : SiteV M_L_law M_X12_stop 89 0 0 0 := ⟨⟨w_1073, w_54, ⟨nh_X12.1, nh_X12.2, pd_X12_stop⟩, ⟨Nat.le_of_ble_eq_true rfl, Nat.le_of_ble_eq_true rfl⟩, rfl, rfl⟩, w_1070, w_1071, w_1072⟩
theorem pd_X11_fined : (parseMethodDescriptor M_X11_fined.1.desc).map (fun d => d.parameters.length) = some 2 := by decide +kernel
theorem s_L_law_90 : SiteV M_L_law M_X11_fined 90 2 0 0 := ⟨⟨w_661, w_42, ⟨nh_X11.1, nh_X11.2, pd_X11_fined⟩, ⟨Nat.le_of_ble_eq_true rfl, Nat.le_of_ble_eq_true rfl⟩, rfl, rfl⟩, w_658, w_659, w_660⟩
theorem pd_X12_fined : (parseMethodDescriptor M_X12_fined.1.desc).map (fun d => d.parameters.length) = some 2 := by decide +kernel
theorem s_L_law_93 : SiteV M_L_law M_X12_fined 93 2 0 0 := ⟨⟨w_1077, w_54, ⟨nh_X12.1, nh_X12.2, pd_X12_fined⟩, ⟨Nat.le_of_ble_eq_true rfl, Nat.le_of_ble_eq_true rfl⟩, rfl, rfl⟩, w_1074, w_1075, w_1076⟩
theorem pd_X11_toBed : (parseMethodDescriptor M_X11_toBed.1.desc).map (fun d => d.parameters.length) = some 3 := by decide +kernel
theorem s_L_law_94 : SiteV M_L_law M_X11_toBed 94 3 0 0 := ⟨⟨w_673, w_42, ⟨nh_X11.1, nh_X11.2, pd_X11_toBed⟩, ⟨Nat.le_of_ble_eq_true rfl, Nat.le_of_ble_eq_true rfl⟩, rfl, rfl⟩, w_670, w_671, w_672⟩
theorem pd_X12_toBed : (parseMethodDescriptor M_X12_toBed.1.desc).map (fun d => d.parameters.length) = some 3 := by decide +kernel
theorem s_L_law_97 : SiteV M_L_law M_X12_toBed 97 3 0 0 := ⟨⟨w_1085, w_54, ⟨nh_X12.1, nh_X12.2, pd_X12_toBed⟩, ⟨Nat.le_of_ble_eq_true rfl, Nat.le_of_ble_eq_true rfl⟩, rfl, rfl⟩, w_1082, w_1083, w_1084⟩
theorem pd_X11_move : (parseMethodDescriptor M_X11_move.1.desc).map (fun d => d.parameters.length) = some 1 := by decide +kernel
theorem s_L_law_98 : SiteV M_L_law M_X11_move 98 1 0 0 := ⟨⟨w_688, w_42, ⟨nh_X11.1, nh_X11.2, pd_X11_move⟩, ⟨Nat.le_of_ble_eq_true rfl, Nat.le_of_ble_eq_true rfl⟩, rfl, rfl⟩, w_685, w_686, w_687⟩
theorem pd_X12_move : (parseMethodDescriptor M_X12_move.1.desc).map (fun d => d.parameters.length) = some 1 := by decide +kernel
theorem s_L_law_101 : SiteV M_L_law M_X12_move 101 1 0 0 := ⟨⟨w_1093, w_54, ⟨nh_X12.1, nh_X12.2, pd_X12_move⟩, ⟨Nat.le_of_ble_eq_true rfl, Nat.le_of_ble_eq_true rfl⟩, rfl, rfl⟩, w_1090, w_1091, w_1092⟩
theorem pd_X11_carters : (parseMethodDescriptor M_X11_carters.1.desc).map (fun d => d.parameters.length) = some 2 := by decide +kernel
theorem s_L_law_102 : SiteV M_L_law M_X11_carters 102 2 0 0 := ⟨⟨w_696, w_42, ⟨nh_X11.1, nh_X11.2, pd_X11_carters⟩, ⟨Nat.le_of_ble_eq_true rfl, Nat.le_of_ble_eq_true rfl⟩, rfl, rfl⟩, w_693, w_694, w_695⟩
theorem pd_X12_carters : (parseMethodDescriptor M_X12_carters.1.desc).map (fun d => d.parameters.length) = some 2 := by decide +kernel
theorem s_L_law_105 : SiteV M_L_law M_X12_carters 105 2 0 0 := ⟨⟨w_1097, w_54, ⟨nh_X12.1, nh_X12.2, pd_X12_carters⟩, ⟨Nat.le_of_ble_eq_true rfl, Nat.le_of_ble_eq_true rfl⟩, rfl, rfl⟩, w_1094, w_1095, w_1096⟩
theorem pd_X11_reading : (parseMethodDescriptor M_X11_reading.1.desc).map (fun d => d.parameters.length) = some 3 := by decide +kernel
theorem s_L_law_106 : SiteV M_L_law M_X11_reading 106 3 0 0 := ⟨⟨w_712, w_42, ⟨nh_X11.1, nh_X11.2, pd_X11_reading⟩, ⟨Nat.le_of_ble_eq_true rfl, Nat.le_of_ble_eq_true rfl⟩, rfl, rfl⟩, w_709, w_710, w_711⟩
theorem pd_X12_reading : (parseMethodDescriptor M_X12_reading.1.desc).map (fun d => d.parameters.length) = some 3 := by decide +kernel
theorem s_L_law_109 : SiteV M_L_law M_X12_reading 109 3 0 0 := ⟨⟨w_1110, w_54, ⟨nh_X12.1, nh_X12.2, pd_X12_reading⟩, ⟨Nat.le_of_ble_eq_true rfl, Nat.le_of_ble_eq_true rfl⟩, rfl, rfl⟩, w_1107, w_1108, w_1109⟩
theorem pd_X11_forget : (parseMethodDescriptor M_X11_forget.1.desc).map (fun d => d.parameters.length) = some 0 := by decide +kernel
theorem s_L_law_110 : SiteV M_L_law M_X11_forget 110 0 0 0 := ⟨⟨w_720, w_42, ⟨nh_X11.1, nh_X11.2, pd_X11_forget⟩, ⟨Nat.le_of_ble_eq_true rfl, Nat.le_of_ble_eq_true rfl⟩, rfl, rfl⟩, w_717, w_718, w_719⟩
theorem pd_X12_forget : (parseMethodDescriptor M_X12_forget.1.desc).map (fun d => d.parameters.length) = some 0 := by decide +kernel
theorem s_L_law_113 : SiteV M_L_law M_X12_forget 113 0 0 0 := ⟨⟨w_1114, w_54, ⟨nh_X12.1, nh_X12.2, pd_X12_forget⟩, ⟨Nat.le_of_ble_eq_true rfl, Nat.le_of_ble_eq_true rfl⟩, rfl, rfl⟩, w_1111, w_1112, w_1113⟩
theorem pd_X11_out : (parseMethodDescriptor M_X11_out.1.desc).map (fun d => d.parameters.length) = some 1 := by decide +kernel
theorem s_L_law_114 : SiteV M_L_law M_X11_out 114 1 0 0 := ⟨⟨w_724, w_42, ⟨nh_X11.1, nh_X11.2, pd_X11_out⟩, ⟨Nat.le_of_ble_eq_true rfl, Nat.le_of_ble_eq_true rfl⟩, rfl, rfl⟩, w_721, w_722, w_723⟩
theorem pd_X12_out : (parseMethodDescriptor M_X12_out.1.desc).map (fun d => d.parameters.length) = some 1 := by decide +kernel
theorem s_L_law_117 : SiteV M_L_law M_X12_out 117 1 0 0 := ⟨⟨w_1118, w_54, ⟨nh_X12.1, nh_X12.2, pd_X12_out⟩, ⟨Nat.le_of_ble_eq_true rfl, Nat.le_of_ble_eq_true rfl⟩, rfl, rfl⟩, w_1115, w_1116, w_1117⟩
theorem pd_X11_look : (parseMethodDescriptor M_X11_look.1.desc).map (fun d => d.parameters.length) = some 1 := by decide +kernel
theorem s_L_law_118 : SiteV M_L_law M_X11_look 118 1 0 0 := ⟨⟨w_749, w_42, ⟨nh_X11.1, nh_X11.2, pd_X11_look⟩, ⟨Nat.le_of_ble_eq_true rfl, Nat.le_of_ble_eq_true rfl⟩, rfl, rfl⟩, w_746, w_747, w_748⟩
theorem pd_X12_look : (parseMethodDescriptor M_X12_look.1.desc).map (fun d => d.parameters.length) = some 1 := by decide +kernel
theorem s_L_law_121 : SiteV M_L_law M_X12_look 121 1 0 0 := ⟨⟨w_1126, w_54, ⟨nh_X12.1, nh_X12.2, pd_X12_look⟩, ⟨Nat.le_of_ble_eq_true rfl, Nat.le_of_ble_eq_true rfl⟩, rfl, rfl⟩, w_1123, w_1124, w_1125⟩
theorem pd_X11_dolls : (parseMethodDescriptor M_X11_dolls.1.desc).map (fun d => d.parameters.length) = some 0 := by decide +kernel
theorem s_L_law_122 : SiteV M_L_law M_X11_dolls 122 0 0 0 := ⟨⟨w_763, w_42, ⟨nh_X11.1, nh_X11.2, pd_X11_dolls⟩, ⟨Nat.le_of_ble_eq_true rfl, Nat.le_of_ble_eq_true rfl⟩, rfl, rfl⟩, w_760, w_761, w_762⟩
theorem pd_X12_dolls : (parseMethodDescriptor M_X12_dolls.1.desc).map (fun d => d.parameters.length) = some 0 := by decide +kernel
theorem s_L_law_125 : SiteV M_L_law M_X12_dolls 125 0 0 0 := ⟨⟨w_1134, w_54, ⟨nh_X12.1, nh_X12.2, pd_X12_dolls⟩, ⟨Nat.le_of_ble_eq_true rfl, Nat.le_of_ble_eq_true rfl⟩, rfl, rfl⟩, w_1131, w_1132, w_1133⟩
theorem pd_X11_days : (parseMethodDescriptor M_X11_days.1.desc).map (fun d => d.parameters.length) = some 3 := by decide +kernel
theorem s_L_law_126 : SiteV M_L_law M_X11_days 126 3 0 0 := ⟨⟨w_771, w_42, ⟨nh_X11.1, nh_X11.2, pd_X11_days⟩, ⟨Nat.le_of_ble_eq_true rfl, Nat.le_of_ble_eq_true rfl⟩, rfl, rfl⟩, w_768, w_769, w_770⟩
theorem pd_X12_days : (parseMethodDescriptor M_X12_days.1.desc).map (fun d => d.parameters.length) = some 3 := by decide +kernel
theorem s_L_law_129 : SiteV M_L_law M_X12_days 129 3 0 0 := ⟨⟨w_1138, w_54, ⟨nh_X12.1, nh_X12.2, pd_X12_days⟩, ⟨Nat.le_of_ble_eq_true rfl, Nat.le_of_ble_eq_true rfl⟩, rfl, rfl⟩, w_1135, w_1136, w_1137⟩
theorem pd_X11_part : (parseMethodDescriptor M_X11_part.1.desc).map (fun d => d.parameters.length) = some 1 := by decide +kernel
theorem s_L_law_130 : SiteV M_L_law M_X11_part 130 1 0 0 := ⟨⟨w_789, w_42, ⟨nh_X11.1, nh_X11.2, pd_X11_part⟩, ⟨Nat.le_of_ble_eq_true rfl, Nat.le_of_ble_eq_true rfl⟩, rfl, rfl⟩, w_786, w_787, w_788⟩
theorem pd_X12_part : (parseMethodDescriptor M_X12_part.1.desc).map (fun d => d.parameters.length) = some 1 := by decide +kernel
theorem s_L_law_134 : SiteV M_L_law M_X12_part 134 1 0 0 := ⟨⟨w_1200, w_54, ⟨nh_X12.1, nh_X12.2, pd_X12_part⟩, ⟨Nat.le_of_ble_eq_true rfl, Nat.le_of_ble_eq_true rfl⟩, rfl, rfl⟩, w_1197, w_1198, w_1199⟩
theorem pd_X11_image : (parseMethodDescriptor M_X11_image.1.desc).map (fun d => d.parameters.length) = some 1 := by decide +kernel
theorem s_L_law_135 : SiteV M_L_law M_X11_image 135 1 0 0 := ⟨⟨w_793, w_42, ⟨nh_X11.1, nh_X11.2, pd_X11_image⟩, ⟨Nat.le_of_ble_eq_true rfl, Nat.le_of_ble_eq_true rfl⟩, rfl, rfl⟩, w_790, w_791, w_792⟩
theorem pd_X12_image : (parseMethodDescriptor M_X12_image.1.desc).map (fun d => d.parameters.length) = some 1 := by decide +kernel
theorem s_L_law_138 : SiteV M_L_law M_X12_image 138 1 0 0 := ⟨⟨w_1204, w_54, ⟨nh_X12.1, nh_X12.2, pd_X12_image⟩, ⟨Nat.le_of_ble_eq_true rfl, Nat.le_of_ble_eq_true rfl⟩, rfl, rfl⟩, w_1201, w_1202, w_1203⟩
theorem pd_X11_from : (parseMethodDescriptor M_X11_from.1.desc).map (fun d => d.parameters.length) = some 1 := by decide +kernel
theorem s_L_law_139 : SiteV M_L_law M_X11_from 139 1 0 0 := ⟨⟨w_797, w_42, ⟨nh_X11.1, nh_X11.2, pd_X11_from⟩, ⟨Nat.le_of_ble_eq_true rfl, Nat.le_of_ble_eq_true rfl⟩, rfl, rfl⟩, w_794, w_795, w_796⟩
theorem pd_X12_from : (parseMethodDescriptor M_X12_from.1.desc).map (fun d => d.parameters.length) = some 1 := by decide +kernel
theorem s_L_law_142 : SiteV M_L_law M_X12_from 142 1 0 0 := ⟨⟨w_1208, w_54, ⟨nh_X12.1, nh_X12.2, pd_X12_from⟩, ⟨Nat.le_of_ble_eq_true rfl, Nat.le_of_ble_eq_true rfl⟩, rfl, rfl⟩, w_1205, w_1206, w_1207⟩
theorem pd_X11_status : (parseMethodDescriptor M_X11_status.1.desc).map (fun d => d.parameters.length) = some 1 := by decide +kernel
theorem s_L_law_143 : SiteV M_L_law M_X11_status 143 1 0 0 := ⟨⟨w_801, w_42, ⟨nh_X11.1, nh_X11.2, pd_X11_status⟩, ⟨Nat.le_of_ble_eq_true rfl, Nat.le_of_ble_eq_true rfl⟩, rfl, rfl⟩, w_798, w_799, w_800⟩
theorem pd_X12_status : (parseMethodDescriptor M_X12_status.1.desc).map (fun d => d.parameters.length) = some 1 := by decide +kernel
theorem s_L_law_146 : SiteV M_L_law M_X12_status 146 1 0 0 := ⟨⟨w_1212, w_54, ⟨nh_X12.1, nh_X12.2, pd_X12_status⟩, ⟨Nat.le_of_ble_eq_true rfl, Nat.le_of_ble_eq_true rfl⟩, rfl, rfl⟩, w_1209, w_1210, w_1211⟩
theorem pd_X11_count : (parseMethodDescriptor M_X11_count.1.desc).map (fun d => d.parameters.length) = some 1 := by decide +kernel
theorem s_L_law_147 : SiteV M_L_law M_X11_count 147 1 0 0 := ⟨⟨w_805, w_42, ⟨nh_X11.1, nh_X11.2, pd_X11_count⟩, ⟨Nat.le_of_ble_eq_true rfl, Nat.le_of_ble_eq_true rfl⟩, rfl, rfl⟩, w_802, w_803, w_804⟩
theorem pd_X12_count : (parseMethodDescriptor M_X12_count.1.desc).map (fun d => d.parameters.length) = some 1 := by decide +kernel
theorem s_L_law_150 : SiteV M_L_law M_X12_count 150 1 0 0 := ⟨⟨w_1216, w_54, ⟨nh_X12.1, nh_X12.2, pd_X12_count⟩, ⟨Nat.le_of_ble_eq_true rfl, Nat.le_of_ble_eq_true rfl⟩, rfl, rfl⟩, w_1213, w_1214, w_1215⟩
theorem pd_X11_digest : (parseMethodDescriptor M_X11_digest.1.desc).map (fun d => d.parameters.length) = some 0 := by decide +kernel
theorem s_L_law_151 : SiteV M_L_law M_X11_digest 151 0 0 0 := ⟨⟨w_813, w_42, ⟨nh_X11.1, nh_X11.2, pd_X11_digest⟩, ⟨Nat.le_of_ble_eq_true rfl, Nat.le_of_ble_eq_true rfl⟩, rfl, rfl⟩, w_810, w_811, w_812⟩
theorem pd_X12_digest : (parseMethodDescriptor M_X12_digest.1.desc).map (fun d => d.parameters.length) = some 0 := by decide +kernel
theorem s_L_law_155 : SiteV M_L_law M_X12_digest 155 0 0 0 := ⟨⟨w_1224, w_54, ⟨nh_X12.1, nh_X12.2, pd_X12_digest⟩, ⟨Nat.le_of_ble_eq_true rfl, Nat.le_of_ble_eq_true rfl⟩, rfl, rfl⟩, w_1221, w_1222, w_1223⟩
