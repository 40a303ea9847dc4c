-- ===== PART A: goes FIRST, ahead of the names: the tables' words, and 'selects' of the private methods out of them =====
/-- a private method of a class that the tables say can be made, by its rows of tables_1 -/
def lw_okq (q : MethodName × Nat) : Prop := (q.1.cls ≠ "java/lang/invoke/MethodHandle" ∧ q.1.cls ≠ "java/lang/invoke/VarHandle") ∧ Cond.instantiable q.1.cls q.2 ∈ tables_1 ∧ Cond.privateMethod q.1 ∈ tables_1 ∧ Cond.instanceMethod q.1 ∈ tables_1
theorem lw_p0 : lw_okq (⟨"SmallestSpeed", "refuseBad", "(I)I"⟩, 15) := ⟨⟨by decide +kernel, by decide +kernel⟩, List.mem_of_getElem? (i := 23) (by decide +kernel), List.mem_of_getElem? (i := 298) (by decide +kernel), List.mem_of_getElem? (i := 299) (by decide +kernel)⟩
theorem lw_p1 : lw_okq (⟨"SmallestSpeed", "refuseFull", "()I"⟩, 15) := ⟨⟨by decide +kernel, by decide +kernel⟩, List.mem_of_getElem? (i := 23) (by decide +kernel), List.mem_of_getElem? (i := 321) (by decide +kernel), List.mem_of_getElem? (i := 322) (by decide +kernel)⟩
theorem lw_p2 : lw_okq (⟨"SmallestSpeed", "isChild", "(I)Z"⟩, 15) := ⟨⟨by decide +kernel, by decide +kernel⟩, List.mem_of_getElem? (i := 23) (by decide +kernel), List.mem_of_getElem? (i := 333) (by decide +kernel), List.mem_of_getElem? (i := 334) (by decide +kernel)⟩
theorem lw_p3 : lw_okq (⟨"SmallestSpeed", "refuseNo", "()I"⟩, 15) := ⟨⟨by decide +kernel, by decide +kernel⟩, List.mem_of_getElem? (i := 23) (by decide +kernel), List.mem_of_getElem? (i := 352) (by decide +kernel), List.mem_of_getElem? (i := 353) (by decide +kernel)⟩
theorem lw_p4 : lw_okq (⟨"SmallestSpeed", "keepFraction", "(II)V"⟩, 15) := ⟨⟨by decide +kernel, by decide +kernel⟩, List.mem_of_getElem? (i := 23) (by decide +kernel), List.mem_of_getElem? (i := 742) (by decide +kernel), List.mem_of_getElem? (i := 743) (by decide +kernel)⟩
theorem lw_p5 : lw_okq (⟨"SmallestSpeed", "countOf", "(I)I"⟩, 15) := ⟨⟨by decide +kernel, by decide +kernel⟩, List.mem_of_getElem? (i := 23) (by decide +kernel), List.mem_of_getElem? (i := 766) (by decide +kernel), List.mem_of_getElem? (i := 767) (by decide +kernel)⟩
theorem lw_p6 : lw_okq (⟨"SmallestSpeedModel", "bad", "(I)I"⟩, 22) := ⟨⟨by decide +kernel, by decide +kernel⟩, List.mem_of_getElem? (i := 781) (by decide +kernel), List.mem_of_getElem? (i := 866) (by decide +kernel), List.mem_of_getElem? (i := 867) (by decide +kernel)⟩
theorem lw_p7 : lw_okq (⟨"SmallestSpeedModel", "children", "()I"⟩, 22) := ⟨⟨by decide +kernel, by decide +kernel⟩, List.mem_of_getElem? (i := 781) (by decide +kernel), List.mem_of_getElem? (i := 870) (by decide +kernel), List.mem_of_getElem? (i := 871) (by decide +kernel)⟩
theorem lw_p8 : lw_okq (⟨"SmallestSpeedModel", "full", "()I"⟩, 22) := ⟨⟨by decide +kernel, by decide +kernel⟩, List.mem_of_getElem? (i := 781) (by decide +kernel), List.mem_of_getElem? (i := 893) (by decide +kernel), List.mem_of_getElem? (i := 894) (by decide +kernel)⟩
theorem lw_p9 : lw_okq (⟨"SmallestSpeedModel", "isChild", "(I)Z"⟩, 22) := ⟨⟨by decide +kernel, by decide +kernel⟩, List.mem_of_getElem? (i := 781) (by decide +kernel), List.mem_of_getElem? (i := 904) (by decide +kernel), List.mem_of_getElem? (i := 905) (by decide +kernel)⟩
theorem lw_p10 : lw_okq (⟨"SmallestSpeedModel", "tellAnew", "(III)I"⟩, 22) := ⟨⟨by decide +kernel, by decide +kernel⟩, List.mem_of_getElem? (i := 781) (by decide +kernel), List.mem_of_getElem? (i := 908) (by decide +kernel), List.mem_of_getElem? (i := 909) (by decide +kernel)⟩
theorem lw_p11 : lw_okq (⟨"SmallestSpeedModel", "get", "(II)I"⟩, 22) := ⟨⟨by decide +kernel, by decide +kernel⟩, List.mem_of_getElem? (i := 781) (by decide +kernel), List.mem_of_getElem? (i := 912) (by decide +kernel), List.mem_of_getElem? (i := 913) (by decide +kernel)⟩
theorem lw_p12 : lw_okq (⟨"SmallestSpeedModel", "keep", "()V"⟩, 22) := ⟨⟨by decide +kernel, by decide +kernel⟩, List.mem_of_getElem? (i := 781) (by decide +kernel), List.mem_of_getElem? (i := 916) (by decide +kernel), List.mem_of_getElem? (i := 917) (by decide +kernel)⟩
theorem lw_p13 : lw_okq (⟨"SmallestSpeedModel", "no", "()I"⟩, 22) := ⟨⟨by decide +kernel, by decide +kernel⟩, List.mem_of_getElem? (i := 781) (by decide +kernel), List.mem_of_getElem? (i := 928) (by decide +kernel), List.mem_of_getElem? (i := 929) (by decide +kernel)⟩
theorem lw_p14 : lw_okq (⟨"SmallestSpeedModel", "all", "()I"⟩, 22) := ⟨⟨by decide +kernel, by decide +kernel⟩, List.mem_of_getElem? (i := 781) (by decide +kernel), List.mem_of_getElem? (i := 940) (by decide +kernel), List.mem_of_getElem? (i := 941) (by decide +kernel)⟩
theorem lw_p15 : lw_okq (⟨"SmallestSpeedModel", "layHand", "(I)V"⟩, 22) := ⟨⟨by decide +kernel, by decide +kernel⟩, List.mem_of_getElem? (i := 781) (by decide +kernel), List.mem_of_getElem? (i := 944) (by decide +kernel), List.mem_of_getElem? (i := 945) (by decide +kernel)⟩
def lw_privs_1 : List (MethodName × Nat) := [(⟨"SmallestSpeed", "refuseBad", "(I)I"⟩, 15), (⟨"SmallestSpeed", "refuseFull", "()I"⟩, 15), (⟨"SmallestSpeed", "isChild", "(I)Z"⟩, 15), (⟨"SmallestSpeed", "refuseNo", "()I"⟩, 15), (⟨"SmallestSpeed", "keepFraction", "(II)V"⟩, 15), (⟨"SmallestSpeed", "countOf", "(I)I"⟩, 15), (⟨"SmallestSpeedModel", "bad", "(I)I"⟩, 22), (⟨"SmallestSpeedModel", "children", "()I"⟩, 22), (⟨"SmallestSpeedModel", "full", "()I"⟩, 22), (⟨"SmallestSpeedModel", "isChild", "(I)Z"⟩, 22), (⟨"SmallestSpeedModel", "tellAnew", "(III)I"⟩, 22), (⟨"SmallestSpeedModel", "get", "(II)I"⟩, 22), (⟨"SmallestSpeedModel", "keep", "()V"⟩, 22), (⟨"SmallestSpeedModel", "no", "()I"⟩, 22), (⟨"SmallestSpeedModel", "all", "()I"⟩, 22), (⟨"SmallestSpeedModel", "layHand", "(I)V"⟩, 22)]
theorem lw_r1 : ∀ q ∈ lw_privs_1, lw_okq q := List.forall_mem_cons.mpr ⟨lw_p0, List.forall_mem_cons.mpr ⟨lw_p1, List.forall_mem_cons.mpr ⟨lw_p2, List.forall_mem_cons.mpr ⟨lw_p3, List.forall_mem_cons.mpr ⟨lw_p4, List.forall_mem_cons.mpr ⟨lw_p5, List.forall_mem_cons.mpr ⟨lw_p6, List.forall_mem_cons.mpr ⟨lw_p7, List.forall_mem_cons.mpr ⟨lw_p8, List.forall_mem_cons.mpr ⟨lw_p9, List.forall_mem_cons.mpr ⟨lw_p10, List.forall_mem_cons.mpr ⟨lw_p11, List.forall_mem_cons.mpr ⟨lw_p12, List.forall_mem_cons.mpr ⟨lw_p13, List.forall_mem_cons.mpr ⟨lw_p14, List.forall_mem_cons.mpr ⟨lw_p15, fun _ h => absurd h List.not_mem_nil⟩⟩⟩⟩⟩⟩⟩⟩⟩⟩⟩⟩⟩⟩⟩⟩
theorem lw_p16 : lw_okq (⟨"SmallestSpeedModel", "cellOf", "(II)I"⟩, 22) := ⟨⟨by decide +kernel, by decide +kernel⟩, List.mem_of_getElem? (i := 781) (by decide +kernel), List.mem_of_getElem? (i := 948) (by decide +kernel), List.mem_of_getElem? (i := 949) (by decide +kernel)⟩
theorem lw_p17 : lw_okq (⟨"SmallestSpeedModel", "isOut", "(II)Z"⟩, 22) := ⟨⟨by decide +kernel, by decide +kernel⟩, List.mem_of_getElem? (i := 781) (by decide +kernel), List.mem_of_getElem? (i := 952) (by decide +kernel), List.mem_of_getElem? (i := 953) (by decide +kernel)⟩
theorem lw_p18 : lw_okq (⟨"SmallestSpeedModel", "countsOf", "(II)I"⟩, 22) := ⟨⟨by decide +kernel, by decide +kernel⟩, List.mem_of_getElem? (i := 781) (by decide +kernel), List.mem_of_getElem? (i := 956) (by decide +kernel), List.mem_of_getElem? (i := 957) (by decide +kernel)⟩
theorem lw_p19 : lw_okq (⟨"SmallestSpeedModel", "limitAt", "(II)I"⟩, 22) := ⟨⟨by decide +kernel, by decide +kernel⟩, List.mem_of_getElem? (i := 781) (by decide +kernel), List.mem_of_getElem? (i := 970) (by decide +kernel), List.mem_of_getElem? (i := 971) (by decide +kernel)⟩
theorem lw_p20 : lw_okq (⟨"SmallestSpeedModel", "nearest", "(III)I"⟩, 22) := ⟨⟨by decide +kernel, by decide +kernel⟩, List.mem_of_getElem? (i := 781) (by decide +kernel), List.mem_of_getElem? (i := 974) (by decide +kernel), List.mem_of_getElem? (i := 975) (by decide +kernel)⟩
theorem lw_p21 : lw_okq (⟨"SmallestSpeedModel", "isSeen", "(III)Z"⟩, 22) := ⟨⟨by decide +kernel, by decide +kernel⟩, List.mem_of_getElem? (i := 781) (by decide +kernel), List.mem_of_getElem? (i := 978) (by decide +kernel), List.mem_of_getElem? (i := 979) (by decide +kernel)⟩
theorem lw_p22 : lw_okq (⟨"SmallestSpeedModel", "lowest", "(II)I"⟩, 22) := ⟨⟨by decide +kernel, by decide +kernel⟩, List.mem_of_getElem? (i := 781) (by decide +kernel), List.mem_of_getElem? (i := 986) (by decide +kernel), List.mem_of_getElem? (i := 987) (by decide +kernel)⟩
theorem lw_p23 : lw_okq (⟨"SmallestSpeedModel", "whereAt", "(II)I"⟩, 22) := ⟨⟨by decide +kernel, by decide +kernel⟩, List.mem_of_getElem? (i := 781) (by decide +kernel), List.mem_of_getElem? (i := 994) (by decide +kernel), List.mem_of_getElem? (i := 995) (by decide +kernel)⟩
theorem lw_p24 : lw_okq (⟨"SmallestSpeedModel", "thereFrom", "(I)I"⟩, 22) := ⟨⟨by decide +kernel, by decide +kernel⟩, List.mem_of_getElem? (i := 781) (by decide +kernel), List.mem_of_getElem? (i := 1002) (by decide +kernel), List.mem_of_getElem? (i := 1003) (by decide +kernel)⟩
theorem lw_p25 : lw_okq (⟨"SmallestSpeedModel", "soonestFrom", "(I)I"⟩, 22) := ⟨⟨by decide +kernel, by decide +kernel⟩, List.mem_of_getElem? (i := 781) (by decide +kernel), List.mem_of_getElem? (i := 1013) (by decide +kernel), List.mem_of_getElem? (i := 1014) (by decide +kernel)⟩
theorem lw_p26 : lw_okq (⟨"SmallestSpeedModel", "goOn", "(I)V"⟩, 22) := ⟨⟨by decide +kernel, by decide +kernel⟩, List.mem_of_getElem? (i := 781) (by decide +kernel), List.mem_of_getElem? (i := 1017) (by decide +kernel), List.mem_of_getElem? (i := 1018) (by decide +kernel)⟩
theorem lw_p27 : lw_okq (⟨"SmallestSpeedModel", "pastIn", "(III)I"⟩, 22) := ⟨⟨by decide +kernel, by decide +kernel⟩, List.mem_of_getElem? (i := 781) (by decide +kernel), List.mem_of_getElem? (i := 1038) (by decide +kernel), List.mem_of_getElem? (i := 1039) (by decide +kernel)⟩
theorem lw_p28 : lw_okq (⟨"SmallestSpeedModel", "layGets", "(I)V"⟩, 22) := ⟨⟨by decide +kernel, by decide +kernel⟩, List.mem_of_getElem? (i := 781) (by decide +kernel), List.mem_of_getElem? (i := 1059) (by decide +kernel), List.mem_of_getElem? (i := 1060) (by decide +kernel)⟩
theorem lw_p29 : lw_okq (⟨"SmallestSpeedModel", "rests", "(II)Z"⟩, 22) := ⟨⟨by decide +kernel, by decide +kernel⟩, List.mem_of_getElem? (i := 781) (by decide +kernel), List.mem_of_getElem? (i := 1063) (by decide +kernel), List.mem_of_getElem? (i := 1064) (by decide +kernel)⟩
theorem lw_p30 : lw_okq (⟨"SmallestSpeedModel", "areSo", "()Z"⟩, 22) := ⟨⟨by decide +kernel, by decide +kernel⟩, List.mem_of_getElem? (i := 781) (by decide +kernel), List.mem_of_getElem? (i := 1079) (by decide +kernel), List.mem_of_getElem? (i := 1080) (by decide +kernel)⟩
theorem lw_p31 : lw_okq (⟨"SmallestSpeedModel", "mostLike", "(II)I"⟩, 22) := ⟨⟨by decide +kernel, by decide +kernel⟩, List.mem_of_getElem? (i := 781) (by decide +kernel), List.mem_of_getElem? (i := 1087) (by decide +kernel), List.mem_of_getElem? (i := 1088) (by decide +kernel)⟩
def lw_privs_2 : List (MethodName × Nat) := [(⟨"SmallestSpeedModel", "cellOf", "(II)I"⟩, 22), (⟨"SmallestSpeedModel", "isOut", "(II)Z"⟩, 22), (⟨"SmallestSpeedModel", "countsOf", "(II)I"⟩, 22), (⟨"SmallestSpeedModel", "limitAt", "(II)I"⟩, 22), (⟨"SmallestSpeedModel", "nearest", "(III)I"⟩, 22), (⟨"SmallestSpeedModel", "isSeen", "(III)Z"⟩, 22), (⟨"SmallestSpeedModel", "lowest", "(II)I"⟩, 22), (⟨"SmallestSpeedModel", "whereAt", "(II)I"⟩, 22), (⟨"SmallestSpeedModel", "thereFrom", "(I)I"⟩, 22), (⟨"SmallestSpeedModel", "soonestFrom", "(I)I"⟩, 22), (⟨"SmallestSpeedModel", "goOn", "(I)V"⟩, 22), (⟨"SmallestSpeedModel", "pastIn", "(III)I"⟩, 22), (⟨"SmallestSpeedModel", "layGets", "(I)V"⟩, 22), (⟨"SmallestSpeedModel", "rests", "(II)Z"⟩, 22), (⟨"SmallestSpeedModel", "areSo", "()Z"⟩, 22), (⟨"SmallestSpeedModel", "mostLike", "(II)I"⟩, 22)]
theorem lw_r2 : ∀ q ∈ lw_privs_2, lw_okq q := List.forall_mem_cons.mpr ⟨lw_p16, List.forall_mem_cons.mpr ⟨lw_p17, List.forall_mem_cons.mpr ⟨lw_p18, List.forall_mem_cons.mpr ⟨lw_p19, List.forall_mem_cons.mpr ⟨lw_p20, List.forall_mem_cons.mpr ⟨lw_p21, List.forall_mem_cons.mpr ⟨lw_p22, List.forall_mem_cons.mpr ⟨lw_p23, List.forall_mem_cons.mpr ⟨lw_p24, List.forall_mem_cons.mpr ⟨lw_p25, List.forall_mem_cons.mpr ⟨lw_p26, List.forall_mem_cons.mpr ⟨lw_p27, List.forall_mem_cons.mpr ⟨lw_p28, List.forall_mem_cons.mpr ⟨lw_p29, List.forall_mem_cons.mpr ⟨lw_p30, List.forall_mem_cons.mpr ⟨lw_p31, fun _ h => absurd h List.not_mem_nil⟩⟩⟩⟩⟩⟩⟩⟩⟩⟩⟩⟩⟩⟩⟩⟩
theorem lw_p32 : lw_okq (⟨"SmallestSpeedModel", "fraction", "(II)V"⟩, 22) := ⟨⟨by decide +kernel, by decide +kernel⟩, List.mem_of_getElem? (i := 781) (by decide +kernel), List.mem_of_getElem? (i := 1106) (by decide +kernel), List.mem_of_getElem? (i := 1107) (by decide +kernel)⟩
theorem lw_p33 : lw_okq (⟨"SmallestSpeedModel", "lookAt", "(I)V"⟩, 22) := ⟨⟨by decide +kernel, by decide +kernel⟩, List.mem_of_getElem? (i := 781) (by decide +kernel), List.mem_of_getElem? (i := 1123) (by decide +kernel), List.mem_of_getElem? (i := 1124) (by decide +kernel)⟩
theorem lw_p34 : lw_okq (⟨"SmallestSpeedModel", "takesFirst", "()Z"⟩, 22) := ⟨⟨by decide +kernel, by decide +kernel⟩, List.mem_of_getElem? (i := 781) (by decide +kernel), List.mem_of_getElem? (i := 1137) (by decide +kernel), List.mem_of_getElem? (i := 1138) (by decide +kernel)⟩
theorem lw_p35 : lw_okq (⟨"SmallestSpeedModel", "isCalled", "(IIIIII)Z"⟩, 22) := ⟨⟨by decide +kernel, by decide +kernel⟩, List.mem_of_getElem? (i := 781) (by decide +kernel), List.mem_of_getElem? (i := 1141) (by decide +kernel), List.mem_of_getElem? (i := 1142) (by decide +kernel)⟩
theorem lw_p36 : lw_okq (⟨"SmallestSpeedModel", "goBehind", "()V"⟩, 22) := ⟨⟨by decide +kernel, by decide +kernel⟩, List.mem_of_getElem? (i := 781) (by decide +kernel), List.mem_of_getElem? (i := 1145) (by decide +kernel), List.mem_of_getElem? (i := 1146) (by decide +kernel)⟩
theorem lw_p37 : lw_okq (⟨"SmallestSpeedModel", "takes", "(III)Z"⟩, 22) := ⟨⟨by decide +kernel, by decide +kernel⟩, List.mem_of_getElem? (i := 781) (by decide +kernel), List.mem_of_getElem? (i := 1149) (by decide +kernel), List.mem_of_getElem? (i := 1150) (by decide +kernel)⟩
theorem lw_p38 : lw_okq (⟨"SmallestSpeedModel", "takesChild", "()Z"⟩, 22) := ⟨⟨by decide +kernel, by decide +kernel⟩, List.mem_of_getElem? (i := 781) (by decide +kernel), List.mem_of_getElem? (i := 1153) (by decide +kernel), List.mem_of_getElem? (i := 1154) (by decide +kernel)⟩
theorem lw_p39 : lw_okq (⟨"SmallestSpeedModel", "counted", "(I)I"⟩, 22) := ⟨⟨by decide +kernel, by decide +kernel⟩, List.mem_of_getElem? (i := 781) (by decide +kernel), List.mem_of_getElem? (i := 1177) (by decide +kernel), List.mem_of_getElem? (i := 1178) (by decide +kernel)⟩
theorem lw_p40 : lw_okq (⟨"SmallestSpeedModel", "sums", "(JII)J"⟩, 22) := ⟨⟨by decide +kernel, by decide +kernel⟩, List.mem_of_getElem? (i := 781) (by decide +kernel), List.mem_of_getElem? (i := 1187) (by decide +kernel), List.mem_of_getElem? (i := 1188) (by decide +kernel)⟩
def lw_privs_3 : List (MethodName × Nat) := [(⟨"SmallestSpeedModel", "fraction", "(II)V"⟩, 22), (⟨"SmallestSpeedModel", "lookAt", "(I)V"⟩, 22), (⟨"SmallestSpeedModel", "takesFirst", "()Z"⟩, 22), (⟨"SmallestSpeedModel", "isCalled", "(IIIIII)Z"⟩, 22), (⟨"SmallestSpeedModel", "goBehind", "()V"⟩, 22), (⟨"SmallestSpeedModel", "takes", "(III)Z"⟩, 22), (⟨"SmallestSpeedModel", "takesChild", "()Z"⟩, 22), (⟨"SmallestSpeedModel", "counted", "(I)I"⟩, 22), (⟨"SmallestSpeedModel", "sums", "(JII)J"⟩, 22)]
theorem lw_r3 : ∀ q ∈ lw_privs_3, lw_okq q := List.forall_mem_cons.mpr ⟨lw_p32, List.forall_mem_cons.mpr ⟨lw_p33, List.forall_mem_cons.mpr ⟨lw_p34, List.forall_mem_cons.mpr ⟨lw_p35, List.forall_mem_cons.mpr ⟨lw_p36, List.forall_mem_cons.mpr ⟨lw_p37, List.forall_mem_cons.mpr ⟨lw_p38, List.forall_mem_cons.mpr ⟨lw_p39, List.forall_mem_cons.mpr ⟨lw_p40, fun _ h => absurd h List.not_mem_nil⟩⟩⟩⟩⟩⟩⟩⟩⟩
def lw_privs : List (MethodName × Nat) := lw_privs_1 ++ (lw_privs_2 ++ (lw_privs_3))
def lw_tbl : List Cond := k2_sels lw_privs ++ tables_1
theorem lw_privs_ok : ∀ q ∈ lw_privs, lw_okq q := by
  show ∀ q ∈ lw_privs_1 ++ (lw_privs_2 ++ (lw_privs_3)), lw_okq q
  exact List.forall_mem_append.mpr ⟨lw_r1, List.forall_mem_append.mpr ⟨lw_r2, lw_r3⟩⟩
/-! names, out of claim/NAMES.whole.lean.txt -/
def RX0 : String := "SmallestSpeed$Doll"
def TX0 : u_T := fun k => match k with
  | _ => ("", "", "", false)
def tyX0 : Nat → FieldType := fun k => match k with
  | _ => .int
abbrev wsX00 : List Cond := u_ws RX0 TX0 0
theorem nmX0 : ∀ a, a < 0 → ∀ b, b < 0 → a ≠ b → (TX0 a).2.1 ≠ (TX0 b).2.1 := by decide +kernel
theorem tyX0_ok : ∀ k, k < 0 → parseFieldDescriptor (TX0 k).2.2.1 = some (tyX0 k) := by decide +kernel
abbrev cX0_init : ByteArray := prog_2_method_1_code
def yX0_init : MethodName := ⟨RX0, "<init>", "()V"⟩
abbrev cX0_highIn : ByteArray := prog_2_method_2_code
def yX0_highIn : MethodName := ⟨RX0, "highIn", "(II)I"⟩
def RX1 : String := "SmallestSpeed$Drives"
def TX1 : u_T := fun k => match k with
  | 0 => ("SmallestSpeed$Drives", "limits", "LSmallestSpeed$Limits;", true)
  | _ => ("SmallestSpeed$Drives", "ends", "[I", true)
def tyX1 : Nat → FieldType := fun k => match k with
  | 0 => .object "SmallestSpeed$Limits"
  | _ => .array .int
abbrev wsX10 : List Cond := u_ws RX1 TX1 2
theorem nmX1 : ∀ a, a < 2 → ∀ b, b < 2 → a ≠ b → (TX1 a).2.1 ≠ (TX1 b).2.1 := by decide +kernel
theorem tyX1_ok : ∀ k, k < 2 → parseFieldDescriptor (TX1 k).2.2.1 = some (tyX1 k) := by decide +kernel
abbrev cX1_init : ByteArray := prog_3_method_1_code
def yX1_init : MethodName := ⟨RX1, "<init>", "()V"⟩
abbrev cX1_cellOfDrive : ByteArray := prog_3_method_2_code
def yX1_cellOfDrive : MethodName := ⟨RX1, "cellOfDrive", "(LSmallestSpeed$Road;II)I"⟩
abbrev cX1_endOfDrive : ByteArray := prog_3_method_3_code
def yX1_endOfDrive : MethodName := ⟨RX1, "endOfDrive", "(LSmallestSpeed$Road;II)I"⟩
abbrev cX1_soonestEnd : ByteArray := prog_3_method_4_code
def yX1_soonestEnd : MethodName := ⟨RX1, "soonestEnd", "(LSmallestSpeed$Road;II)I"⟩
abbrev cX1_bestStart : ByteArray := prog_3_method_5_code
def yX1_bestStart : MethodName := ⟨RX1, "bestStart", "(LSmallestSpeed$Road;I)I"⟩
abbrev cX1_driveBySpeeds : ByteArray := prog_3_method_6_code
def yX1_driveBySpeeds : MethodName := ⟨RX1, "driveBySpeeds", "(LSmallestSpeed$Road;II)I"⟩
abbrev cX1_bestToBed : ByteArray := prog_3_method_7_code
def yX1_bestToBed : MethodName := ⟨RX1, "bestToBed", "(LSmallestSpeed$Road;II)I"⟩
abbrev cX1_bestMove : ByteArray := prog_3_method_8_code
def yX1_bestMove : MethodName := ⟨RX1, "bestMove", "(LSmallestSpeed$Road;I)I"⟩
abbrev cX1_restingPairs : ByteArray := prog_3_method_9_code
def yX1_restingPairs : MethodName := ⟨RX1, "restingPairs", "(LSmallestSpeed$Road;II)I"⟩
abbrev cX1_isBestAgainst : ByteArray := prog_3_method_10_code
def yX1_isBestAgainst : MethodName := ⟨RX1, "isBestAgainst", "(II)Z"⟩
abbrev cX1_getsAgainst : ByteArray := prog_3_method_11_code
def yX1_getsAgainst : MethodName := ⟨RX1, "getsAgainst", "(II)I"⟩
abbrev cX1_minutesOfDays : ByteArray := prog_3_method_12_code
def yX1_minutesOfDays : MethodName := ⟨RX1, "minutesOfDays", "(LSmallestSpeed$Road;III)I"⟩
def RX2 : String := "SmallestSpeed$Grows"
def TX2 : u_T := fun k => match k with
  | _ => ("", "", "", false)
def tyX2 : Nat → FieldType := fun k => match k with
  | _ => .int
abbrev wsX20 : List Cond := u_ws RX2 TX2 0
theorem nmX2 : ∀ a, a < 0 → ∀ b, b < 0 → a ≠ b → (TX2 a).2.1 ≠ (TX2 b).2.1 := by decide +kernel
theorem tyX2_ok : ∀ k, k < 0 → parseFieldDescriptor (TX2 k).2.2.1 = some (tyX2 k) := by decide +kernel
abbrev cX2_init : ByteArray := prog_4_method_1_code
def yX2_init : MethodName := ⟨RX2, "<init>", "()V"⟩
abbrev cX2_highIn : ByteArray := prog_4_method_2_code
def yX2_highIn : MethodName := ⟨RX2, "highIn", "(II)I"⟩
def RX3 : String := "SmallestSpeed$Held"
def TX3 : u_T := fun k => match k with
  | _ => ("", "", "", false)
def tyX3 : Nat → FieldType := fun k => match k with
  | _ => .int
abbrev wsX30 : List Cond := u_ws RX3 TX3 0
theorem nmX3 : ∀ a, a < 0 → ∀ b, b < 0 → a ≠ b → (TX3 a).2.1 ≠ (TX3 b).2.1 := by decide +kernel
theorem tyX3_ok : ∀ k, k < 0 → parseFieldDescriptor (TX3 k).2.2.1 = some (tyX3 k) := by decide +kernel
abbrev cX3_init : ByteArray := prog_5_method_1_code
def yX3_init : MethodName := ⟨RX3, "<init>", "()V"⟩
abbrev cX3_highIn : ByteArray := prog_5_method_2_code
def yX3_highIn : MethodName := ⟨RX3, "highIn", "(II)I"⟩
def RX4 : String := "SmallestSpeed$Limits"
def TX4 : u_T := fun k => match k with
  | 0 => ("SmallestSpeed$Limits", "walker", "LSmallestSpeed$Walker;", true)
  | 1 => ("SmallestSpeed$Limits", "held", "LSmallestSpeed$Walker;", true)
  | 2 => ("SmallestSpeed$Limits", "player", "LSmallestSpeed$Walker;", true)
  | 3 => ("SmallestSpeed$Limits", "twin", "LSmallestSpeed$Walker;", true)
  | 4 => ("SmallestSpeed$Limits", "grows", "LSmallestSpeed$Walker;", true)
  | 5 => ("SmallestSpeed$Limits", "doll", "LSmallestSpeed$Walker;", true)
  | 6 => ("SmallestSpeed$Limits", "cells", "[I", true)
  | _ => ("SmallestSpeed$Limits", "highs", "[I", true)
def tyX4 : Nat → FieldType := fun k => match k with
  | 0 => .object "SmallestSpeed$Walker"
  | 1 => .object "SmallestSpeed$Walker"
  | 2 => .object "SmallestSpeed$Walker"
  | 3 => .object "SmallestSpeed$Walker"
  | 4 => .object "SmallestSpeed$Walker"
  | 5 => .object "SmallestSpeed$Walker"
  | 6 => .array .int
  | _ => .array .int
abbrev wsX40 : List Cond := u_ws RX4 TX4 8
theorem nmX4 : ∀ a, a < 8 → ∀ b, b < 8 → a ≠ b → (TX4 a).2.1 ≠ (TX4 b).2.1 := by decide +kernel
theorem tyX4_ok : ∀ k, k < 8 → parseFieldDescriptor (TX4 k).2.2.1 = some (tyX4 k) := by decide +kernel
abbrev cX4_init : ByteArray := prog_6_method_1_code
def yX4_init : MethodName := ⟨RX4, "<init>", "()V"⟩
abbrev cX4_kindOf : ByteArray := prog_6_method_2_code
def yX4_kindOf : MethodName := ⟨RX4, "kindOf", "(I)LSmallestSpeed$Walker;"⟩
abbrev cX4_see : ByteArray := prog_6_method_3_code
def yX4_see : MethodName := ⟨RX4, "see", "(LSmallestSpeed$Road;I)V"⟩
abbrev cX4_limitIn : ByteArray := prog_6_method_4_code
def yX4_limitIn : MethodName := ⟨RX4, "limitIn", "(LSmallestSpeed$Road;II)I"⟩
abbrev cX4_nearestChild : ByteArray := prog_6_method_5_code
def yX4_nearestChild : MethodName := ⟨RX4, "nearestChild", "(LSmallestSpeed$Road;I)I"⟩
abbrev cX4_outBetween : ByteArray := prog_6_method_6_code
def yX4_outBetween : MethodName := ⟨RX4, "outBetween", "(LSmallestSpeed$Road;II)I"⟩
abbrev cX4_nearestBehind : ByteArray := prog_6_method_7_code
def yX4_nearestBehind : MethodName := ⟨RX4, "nearestBehind", "(LSmallestSpeed$Road;III)I"⟩
abbrev cX4_lowestIn : ByteArray := prog_6_method_8_code
def yX4_lowestIn : MethodName := ⟨RX4, "lowestIn", "(LSmallestSpeed$Road;II)I"⟩
abbrev cX4_isSeen : ByteArray := prog_6_method_9_code
def yX4_isSeen : MethodName := ⟨RX4, "isSeen", "(LSmallestSpeed$Road;III)Z"⟩
abbrev cX4_highByRank : ByteArray := prog_6_method_10_code
def yX4_highByRank : MethodName := ⟨RX4, "highByRank", "(I)I"⟩
def RX5 : String := "SmallestSpeed$Player"
def TX5 : u_T := fun k => match k with
  | _ => ("", "", "", false)
def tyX5 : Nat → FieldType := fun k => match k with
  | _ => .int
abbrev wsX50 : List Cond := u_ws RX5 TX5 0
theorem nmX5 : ∀ a, a < 0 → ∀ b, b < 0 → a ≠ b → (TX5 a).2.1 ≠ (TX5 b).2.1 := by decide +kernel
theorem tyX5_ok : ∀ k, k < 0 → parseFieldDescriptor (TX5 k).2.2.1 = some (tyX5 k) := by decide +kernel
abbrev cX5_init : ByteArray := prog_7_method_1_code
def yX5_init : MethodName := ⟨RX5, "<init>", "()V"⟩
abbrev cX5_cellIn : ByteArray := prog_7_method_2_code
def yX5_cellIn : MethodName := ⟨RX5, "cellIn", "(III)I"⟩
def RX6 : String := "SmallestSpeed$Road"
def TX6 : u_T := fun k => match k with
  | 0 => ("SmallestSpeed$Road", "sight", "I", false)
  | 1 => ("SmallestSpeed$Road", "law", "I", false)
  | 2 => ("SmallestSpeed$Road", "children", "I", false)
  | 3 => ("SmallestSpeed$Road", "kind", "[I", true)
  | 4 => ("SmallestSpeed$Road", "height", "[I", true)
  | 5 => ("SmallestSpeed$Road", "cell", "[I", true)
  | 6 => ("SmallestSpeed$Road", "steps", "[I", true)
  | 7 => ("SmallestSpeed$Road", "bed", "[I", true)
  | 8 => ("SmallestSpeed$Road", "speeds", "I", false)
  | 9 => ("SmallestSpeed$Road", "speed", "[I", true)
  | 10 => ("SmallestSpeed$Road", "readings", "I", false)
  | 11 => ("SmallestSpeed$Road", "readCell", "[I", true)
  | 12 => ("SmallestSpeed$Road", "readMinute", "[I", true)
  | 13 => ("SmallestSpeed$Road", "readLimit", "[I", true)
  | 14 => ("SmallestSpeed$Road", "undos", "I", false)
  | 15 => ("SmallestSpeed$Road", "undoChild", "[I", true)
  | 16 => ("SmallestSpeed$Road", "undoBed", "[Z", true)
  | _ => ("SmallestSpeed$Road", "undoWas", "[I", true)
def tyX6 : Nat → FieldType := fun k => match k with
  | 0 => .int
  | 1 => .int
  | 2 => .int
  | 3 => .array .int
  | 4 => .array .int
  | 5 => .array .int
  | 6 => .array .int
  | 7 => .array .int
  | 8 => .int
  | 9 => .array .int
  | 10 => .int
  | 11 => .array .int
  | 12 => .array .int
  | 13 => .array .int
  | 14 => .int
  | 15 => .array .int
  | 16 => .array .boolean
  | _ => .array .int
abbrev wsX60 : List Cond := u_ws RX6 TX6 18
theorem nmX6 : ∀ a, a < 18 → ∀ b, b < 18 → a ≠ b → (TX6 a).2.1 ≠ (TX6 b).2.1 := by decide +kernel
theorem tyX6_ok : ∀ k, k < 18 → parseFieldDescriptor (TX6 k).2.2.1 = some (tyX6 k) := by decide +kernel
abbrev cX6_init : ByteArray := prog_8_method_1_code
def yX6_init : MethodName := ⟨RX6, "<init>", "()V"⟩
abbrev cX6_begin : ByteArray := prog_8_method_2_code
def yX6_begin : MethodName := ⟨RX6, "begin", "(II)V"⟩
abbrev cX6_addChild : ByteArray := prog_8_method_3_code
def yX6_addChild : MethodName := ⟨RX6, "addChild", "(IIIII)V"⟩
abbrev cX6_addSpeed : ByteArray := prog_8_method_4_code
def yX6_addSpeed : MethodName := ⟨RX6, "addSpeed", "(I)V"⟩
abbrev cX6_addReading : ByteArray := prog_8_method_5_code
def yX6_addReading : MethodName := ⟨RX6, "addReading", "(III)V"⟩
abbrev cX6_keepForUndo : ByteArray := prog_8_method_6_code
def yX6_keepForUndo : MethodName := ⟨RX6, "keepForUndo", "(IZI)V"⟩
abbrev cX6_undoLast : ByteArray := prog_8_method_7_code
def yX6_undoLast : MethodName := ⟨RX6, "undoLast", "()V"⟩
abbrev cX6_copyFrom : ByteArray := prog_8_method_8_code
def yX6_copyFrom : MethodName := ⟨RX6, "copyFrom", "(LSmallestSpeed$Road;)V"⟩
abbrev cX6_everyChild : ByteArray := prog_8_method_9_code
def yX6_everyChild : MethodName := ⟨RX6, "everyChild", "()I"⟩
abbrev cX6_digestOn : ByteArray := prog_8_method_10_code
def yX6_digestOn : MethodName := ⟨RX6, "digestOn", "(J)J"⟩
def RX7 : String := "SmallestSpeed$RoadText"
def TX7 : u_T := fun k => match k with
  | 0 => ("SmallestSpeed$RoadText", "bytes", "[I", true)
  | 1 => ("SmallestSpeed$RoadText", "length", "I", false)
  | _ => ("SmallestSpeed$RoadText", "place", "I", false)
def tyX7 : Nat → FieldType := fun k => match k with
  | 0 => .array .int
  | 1 => .int
  | _ => .int
abbrev wsX70 : List Cond := u_ws RX7 TX7 3
theorem nmX7 : ∀ a, a < 3 → ∀ b, b < 3 → a ≠ b → (TX7 a).2.1 ≠ (TX7 b).2.1 := by decide +kernel
theorem tyX7_ok : ∀ k, k < 3 → parseFieldDescriptor (TX7 k).2.2.1 = some (tyX7 k) := by decide +kernel
abbrev cX7_init : ByteArray := prog_9_method_1_code
def yX7_init : MethodName := ⟨RX7, "<init>", "()V"⟩
abbrev cX7_append : ByteArray := prog_9_method_2_code
def yX7_append : MethodName := ⟨RX7, "append", "(I)V"⟩
abbrev cX7_readInto : ByteArray := prog_9_method_3_code
def yX7_readInto : MethodName := ⟨RX7, "readInto", "(LSmallestSpeed$Road;)I"⟩
abbrev cX7_readRoadItem : ByteArray := prog_9_method_4_code
def yX7_readRoadItem : MethodName := ⟨RX7, "readRoadItem", "(LSmallestSpeed$Road;)Z"⟩
abbrev cX7_readChildItem : ByteArray := prog_9_method_5_code
def yX7_readChildItem : MethodName := ⟨RX7, "readChildItem", "(LSmallestSpeed$Road;)Z"⟩
abbrev cX7_isAtEnd : ByteArray := prog_9_method_6_code
def yX7_isAtEnd : MethodName := ⟨RX7, "isAtEnd", "()Z"⟩
abbrev cX7_readWord : ByteArray := prog_9_method_7_code
def yX7_readWord : MethodName := ⟨RX7, "readWord", "(Ljava/lang/String;)Z"⟩
abbrev cX7_readNumber : ByteArray := prog_9_method_8_code
def yX7_readNumber : MethodName := ⟨RX7, "readNumber", "(II)I"⟩
abbrev cX7_readSemicolon : ByteArray := prog_9_method_9_code
def yX7_readSemicolon : MethodName := ⟨RX7, "readSemicolon", "()Z"⟩
abbrev cX7_endOfRun : ByteArray := prog_9_method_10_code
def yX7_endOfRun : MethodName := ⟨RX7, "endOfRun", "(II)I"⟩
def RX8 : String := "SmallestSpeed$Sightings"
def TX8 : u_T := fun k => match k with
  | 0 => ("SmallestSpeed$Sightings", "limits", "LSmallestSpeed$Limits;", true)
  | _ => ("SmallestSpeed$Sightings", "alike", "[I", true)
def tyX8 : Nat → FieldType := fun k => match k with
  | 0 => .object "SmallestSpeed$Limits"
  | _ => .array .int
abbrev wsX80 : List Cond := u_ws RX8 TX8 2
theorem nmX8 : ∀ a, a < 2 → ∀ b, b < 2 → a ≠ b → (TX8 a).2.1 ≠ (TX8 b).2.1 := by decide +kernel
theorem tyX8_ok : ∀ k, k < 2 → parseFieldDescriptor (TX8 k).2.2.1 = some (tyX8 k) := by decide +kernel
abbrev cX8_init : ByteArray := prog_10_method_1_code
def yX8_init : MethodName := ⟨RX8, "<init>", "()V"⟩
abbrev cX8_isAsRead : ByteArray := prog_10_method_2_code
def yX8_isAsRead : MethodName := ⟨RX8, "isAsRead", "(LSmallestSpeed$Road;I)Z"⟩
abbrev cX8_fittingSets : ByteArray := prog_10_method_3_code
def yX8_fittingSets : MethodName := ⟨RX8, "fittingSets", "(LSmallestSpeed$Road;)J"⟩
abbrev cX8_inAllSets : ByteArray := prog_10_method_4_code
def yX8_inAllSets : MethodName := ⟨RX8, "inAllSets", "(LSmallestSpeed$Road;J)I"⟩
abbrev cX8_bestCell : ByteArray := prog_10_method_5_code
def yX8_bestCell : MethodName := ⟨RX8, "bestCell", "(LSmallestSpeed$Road;JI)I"⟩
abbrev cX8_mostAlike : ByteArray := prog_10_method_6_code
def yX8_mostAlike : MethodName := ⟨RX8, "mostAlike", "(LSmallestSpeed$Road;JI)I"⟩
abbrev cX8_possibleDolls : ByteArray := prog_10_method_7_code
def yX8_possibleDolls : MethodName := ⟨RX8, "possibleDolls", "(LSmallestSpeed$Road;)I"⟩
def RX9 : String := "SmallestSpeed$Twin"
def TX9 : u_T := fun k => match k with
  | _ => ("", "", "", false)
def tyX9 : Nat → FieldType := fun k => match k with
  | _ => .int
abbrev wsX90 : List Cond := u_ws RX9 TX9 0
theorem nmX9 : ∀ a, a < 0 → ∀ b, b < 0 → a ≠ b → (TX9 a).2.1 ≠ (TX9 b).2.1 := by decide +kernel
theorem tyX9_ok : ∀ k, k < 0 → parseFieldDescriptor (TX9 k).2.2.1 = some (tyX9 k) := by decide +kernel
abbrev cX9_init : ByteArray := prog_11_method_1_code
def yX9_init : MethodName := ⟨RX9, "<init>", "()V"⟩
abbrev cX9_highIn : ByteArray := prog_11_method_2_code
def yX9_highIn : MethodName := ⟨RX9, "highIn", "(II)I"⟩
def RX10 : String := "SmallestSpeed$Walker"
def TX10 : u_T := fun k => match k with
  | _ => ("", "", "", false)
def tyX10 : Nat → FieldType := fun k => match k with
  | _ => .int
abbrev wsX100 : List Cond := u_ws RX10 TX10 0
theorem nmX10 : ∀ a, a < 0 → ∀ b, b < 0 → a ≠ b → (TX10 a).2.1 ≠ (TX10 b).2.1 := by decide +kernel
theorem tyX10_ok : ∀ k, k < 0 → parseFieldDescriptor (TX10 k).2.2.1 = some (tyX10 k) := by decide +kernel
abbrev cX10_init : ByteArray := prog_12_method_1_code
def yX10_init : MethodName := ⟨RX10, "<init>", "()V"⟩
abbrev cX10_cellIn : ByteArray := prog_12_method_2_code
def yX10_cellIn : MethodName := ⟨RX10, "cellIn", "(III)I"⟩
abbrev cX10_highIn : ByteArray := prog_12_method_3_code
def yX10_highIn : MethodName := ⟨RX10, "highIn", "(II)I"⟩
def RX11 : String := "SmallestSpeed"
def TX11 : u_T := fun k => match k with
  | 0 => ("SmallestSpeed", "now", "LSmallestSpeed$Road;", true)
  | 1 => ("SmallestSpeed", "trial", "LSmallestSpeed$Road;", true)
  | 2 => ("SmallestSpeed", "image0", "LSmallestSpeed$Road;", true)
  | 3 => ("SmallestSpeed", "image1", "LSmallestSpeed$Road;", true)
  | 4 => ("SmallestSpeed", "kept0", "Z", false)
  | 5 => ("SmallestSpeed", "kept1", "Z", false)
  | 6 => ("SmallestSpeed", "text", "LSmallestSpeed$RoadText;", true)
  | 7 => ("SmallestSpeed", "limits", "LSmallestSpeed$Limits;", true)
  | 8 => ("SmallestSpeed", "drives", "LSmallestSpeed$Drives;", true)
  | 9 => ("SmallestSpeed", "sightings", "LSmallestSpeed$Sightings;", true)
  | 10 => ("SmallestSpeed", "above", "I", false)
  | 11 => ("SmallestSpeed", "below", "I", false)
  | 12 => ("SmallestSpeed", "refusedBad", "I", false)
  | 13 => ("SmallestSpeed", "refusedNo", "I", false)
  | _ => ("SmallestSpeed", "refusedFull", "I", false)
def tyX11 : Nat → FieldType := fun k => match k with
  | 0 => .object "SmallestSpeed$Road"
  | 1 => .object "SmallestSpeed$Road"
  | 2 => .object "SmallestSpeed$Road"
  | 3 => .object "SmallestSpeed$Road"
  | 4 => .boolean
  | 5 => .boolean
  | 6 => .object "SmallestSpeed$RoadText"
  | 7 => .object "SmallestSpeed$Limits"
  | 8 => .object "SmallestSpeed$Drives"
  | 9 => .object "SmallestSpeed$Sightings"
  | 10 => .int
  | 11 => .int
  | 12 => .int
  | 13 => .int
  | _ => .int
abbrev wsX110 : List Cond := u_ws RX11 TX11 15
theorem nmX11 : ∀ a, a < 15 → ∀ b, b < 15 → a ≠ b → (TX11 a).2.1 ≠ (TX11 b).2.1 := by decide +kernel
theorem tyX11_ok : ∀ k, k < 15 → parseFieldDescriptor (TX11 k).2.2.1 = some (tyX11 k) := by decide +kernel
abbrev cX11_init : ByteArray := prog_1_method_1_code
def yX11_init : MethodName := ⟨RX11, "<init>", "()V"⟩
abbrev cX11_road : ByteArray := prog_1_method_2_code
def yX11_road : MethodName := ⟨RX11, "road", "(II)I"⟩
abbrev cX11_rule : ByteArray := prog_1_method_3_code
def yX11_rule : MethodName := ⟨RX11, "rule", "(I)I"⟩
abbrev cX11_sight : ByteArray := prog_1_method_4_code
def yX11_sight : MethodName := ⟨RX11, "sight", "(I)I"⟩
abbrev cX11_child : ByteArray := prog_1_method_5_code
def yX11_child : MethodName := ⟨RX11, "child", "(IIIII)I"⟩
abbrev cX11_stand : ByteArray := prog_1_method_6_code
def yX11_stand : MethodName := ⟨RX11, "stand", "(II)I"⟩
abbrev cX11_bed : ByteArray := prog_1_method_7_code
def yX11_bed : MethodName := ⟨RX11, "bed", "(II)I"⟩
abbrev cX11_undo : ByteArray := prog_1_method_8_code
def yX11_undo : MethodName := ⟨RX11, "undo", "()I"⟩
abbrev cX11_type : ByteArray := prog_1_method_9_code
def yX11_type : MethodName := ⟨RX11, "type", "(I)I"⟩
abbrev cX11_clear : ByteArray := prog_1_method_10_code
def yX11_clear : MethodName := ⟨RX11, "clear", "()I"⟩
abbrev cX11_read : ByteArray := prog_1_method_11_code
def yX11_read : MethodName := ⟨RX11, "read", "()I"⟩
abbrev cX11_of : ByteArray := prog_1_method_12_code
def yX11_of : MethodName := ⟨RX11, "of", "(III)I"⟩
abbrev cX11_limit : ByteArray := prog_1_method_13_code
def yX11_limit : MethodName := ⟨RX11, "limit", "(III)I"⟩
abbrev cX11_where : ByteArray := prog_1_method_14_code
def yX11_where : MethodName := ⟨RX11, "where", "(II)I"⟩
abbrev cX11_there : ByteArray := prog_1_method_15_code
def yX11_there : MethodName := ⟨RX11, "there", "(I)I"⟩
abbrev cX11_soonest : ByteArray := prog_1_method_16_code
def yX11_soonest : MethodName := ⟨RX11, "soonest", "(I)I"⟩
abbrev cX11_start : ByteArray := prog_1_method_17_code
def yX11_start : MethodName := ⟨RX11, "start", "(I)I"⟩
abbrev cX11_speed : ByteArray := prog_1_method_18_code
def yX11_speed : MethodName := ⟨RX11, "speed", "(I)I"⟩
abbrev cX11_stop : ByteArray := prog_1_method_19_code
def yX11_stop : MethodName := ⟨RX11, "stop", "()I"⟩
abbrev cX11_fined : ByteArray := prog_1_method_20_code
def yX11_fined : MethodName := ⟨RX11, "fined", "(II)I"⟩
abbrev cX11_toBed : ByteArray := prog_1_method_21_code
def yX11_toBed : MethodName := ⟨RX11, "toBed", "(III)I"⟩
abbrev cX11_move : ByteArray := prog_1_method_22_code
def yX11_move : MethodName := ⟨RX11, "move", "(I)I"⟩
abbrev cX11_carters : ByteArray := prog_1_method_23_code
def yX11_carters : MethodName := ⟨RX11, "carters", "(II)I"⟩
abbrev cX11_reading : ByteArray := prog_1_method_24_code
def yX11_reading : MethodName := ⟨RX11, "reading", "(III)I"⟩
abbrev cX11_forget : ByteArray := prog_1_method_25_code
def yX11_forget : MethodName := ⟨RX11, "forget", "()I"⟩
abbrev cX11_out : ByteArray := prog_1_method_26_code
def yX11_out : MethodName := ⟨RX11, "out", "(I)I"⟩
abbrev cX11_look : ByteArray := prog_1_method_27_code
def yX11_look : MethodName := ⟨RX11, "look", "(I)I"⟩
abbrev cX11_dolls : ByteArray := prog_1_method_28_code
def yX11_dolls : MethodName := ⟨RX11, "dolls", "()I"⟩
abbrev cX11_days : ByteArray := prog_1_method_29_code
def yX11_days : MethodName := ⟨RX11, "days", "(III)I"⟩
abbrev cX11_part : ByteArray := prog_1_method_30_code
def yX11_part : MethodName := ⟨RX11, "part", "(I)J"⟩
abbrev cX11_image : ByteArray := prog_1_method_31_code
def yX11_image : MethodName := ⟨RX11, "image", "(I)I"⟩
abbrev cX11_from : ByteArray := prog_1_method_32_code
def yX11_from : MethodName := ⟨RX11, "from", "(I)I"⟩
abbrev cX11_status : ByteArray := prog_1_method_33_code
def yX11_status : MethodName := ⟨RX11, "status", "(I)I"⟩
abbrev cX11_count : ByteArray := prog_1_method_34_code
def yX11_count : MethodName := ⟨RX11, "count", "(I)I"⟩
abbrev cX11_digest : ByteArray := prog_1_method_35_code
def yX11_digest : MethodName := ⟨RX11, "digest", "()J"⟩
abbrev cX11_countOf : ByteArray := prog_1_method_36_code
def yX11_countOf : MethodName := ⟨RX11, "countOf", "(I)I"⟩
abbrev cX11_keepFraction : ByteArray := prog_1_method_37_code
def yX11_keepFraction : MethodName := ⟨RX11, "keepFraction", "(II)V"⟩
abbrev cX11_refuseBad : ByteArray := prog_1_method_38_code
def yX11_refuseBad : MethodName := ⟨RX11, "refuseBad", "(I)I"⟩
abbrev cX11_refuseNo : ByteArray := prog_1_method_39_code
def yX11_refuseNo : MethodName := ⟨RX11, "refuseNo", "()I"⟩
abbrev cX11_refuseFull : ByteArray := prog_1_method_40_code
def yX11_refuseFull : MethodName := ⟨RX11, "refuseFull", "()I"⟩
abbrev cX11_isChild : ByteArray := prog_1_method_41_code
def yX11_isChild : MethodName := ⟨RX11, "isChild", "(I)Z"⟩
abbrev cX11_isCell : ByteArray := prog_1_method_42_code
def yX11_isCell : MethodName := ⟨RX11, "isCell", "(I)Z"⟩
abbrev cX11_isMinute : ByteArray := prog_1_method_43_code
def yX11_isMinute : MethodName := ⟨RX11, "isMinute", "(I)Z"⟩
abbrev cX11_isZeroOrOne : ByteArray := prog_1_method_44_code
def yX11_isZeroOrOne : MethodName := ⟨RX11, "isZeroOrOne", "(I)Z"⟩
abbrev cX11_within : ByteArray := prog_1_method_45_code
def yX11_within : MethodName := ⟨RX11, "within", "(III)Z"⟩
abbrev cX11_noneIfNever : ByteArray := prog_1_method_46_code
def yX11_noneIfNever : MethodName := ⟨RX11, "noneIfNever", "(I)I"⟩
def RX12 : String := "SmallestSpeedModel"
def TX12 : u_T := fun k => match k with
  | 0 => ("SmallestSpeedModel", "now", "[I", true)
  | 1 => ("SmallestSpeedModel", "kept", "[I", true)
  | 2 => ("SmallestSpeedModel", "isKept", "[Z", true)
  | 3 => ("SmallestSpeedModel", "refused", "[I", true)
  | 4 => ("SmallestSpeedModel", "above", "J", false)
  | 5 => ("SmallestSpeedModel", "below", "J", false)
  | 6 => ("SmallestSpeedModel", "kinds", "[I", true)
  | 7 => ("SmallestSpeedModel", "cells", "[I", true)
  | 8 => ("SmallestSpeedModel", "present", "I", false)
  | 9 => ("SmallestSpeedModel", "canBe", "[Z", true)
  | 10 => ("SmallestSpeedModel", "canBeThen", "[Z", true)
  | 11 => ("SmallestSpeedModel", "gets", "[I", true)
  | 12 => ("SmallestSpeedModel", "fits", "[Z", true)
  | 13 => ("SmallestSpeedModel", "manyLike", "[I", true)
  | 14 => ("SmallestSpeedModel", "bytes", "[I", true)
  | 15 => ("SmallestSpeedModel", "bytesLong", "I", false)
  | 16 => ("SmallestSpeedModel", "tokenAt", "I", false)
  | 17 => ("SmallestSpeedModel", "tokenLong", "I", false)
  | 18 => ("SmallestSpeedModel", "token", "I", false)
  | 19 => ("SmallestSpeedModel", "value", "I", false)
  | 20 => ("SmallestSpeedModel", "anew", "[I", true)
  | _ => ("SmallestSpeedModel", "values", "[I", true)
def tyX12 : Nat → FieldType := fun k => match k with
  | 0 => .array .int
  | 1 => .array .int
  | 2 => .array .boolean
  | 3 => .array .int
  | 4 => .long
  | 5 => .long
  | 6 => .array .int
  | 7 => .array .int
  | 8 => .int
  | 9 => .array .boolean
  | 10 => .array .boolean
  | 11 => .array .int
  | 12 => .array .boolean
  | 13 => .array .int
  | 14 => .array .int
  | 15 => .int
  | 16 => .int
  | 17 => .int
  | 18 => .int
  | 19 => .int
  | 20 => .array .int
  | _ => .array .int
abbrev wsX120 : List Cond := u_ws RX12 TX12 22
theorem nmX12 : ∀ a, a < 22 → ∀ b, b < 22 → a ≠ b → (TX12 a).2.1 ≠ (TX12 b).2.1 := by decide +kernel
theorem tyX12_ok : ∀ k, k < 22 → parseFieldDescriptor (TX12 k).2.2.1 = some (tyX12 k) := by decide +kernel
abbrev cX12_init : ByteArray := prog_14_method_1_code
def yX12_init : MethodName := ⟨RX12, "<init>", "()V"⟩
abbrev cX12_in : ByteArray := prog_14_method_3_code
def yX12_in : MethodName := ⟨RX12, "in", "(JJJ)Z"⟩
abbrev cX12_bad : ByteArray := prog_14_method_4_code
def yX12_bad : MethodName := ⟨RX12, "bad", "(I)I"⟩
abbrev cX12_no : ByteArray := prog_14_method_5_code
def yX12_no : MethodName := ⟨RX12, "no", "()I"⟩
abbrev cX12_full : ByteArray := prog_14_method_6_code
def yX12_full : MethodName := ⟨RX12, "full", "()I"⟩
abbrev cX12_bits : ByteArray := prog_14_method_7_code
def yX12_bits : MethodName := ⟨RX12, "bits", "(I)I"⟩
abbrev cX12_begin : ByteArray := prog_14_method_8_code
def yX12_begin : MethodName := ⟨RX12, "begin", "([III)V"⟩
abbrev cX12_children : ByteArray := prog_14_method_9_code
def yX12_children : MethodName := ⟨RX12, "children", "()I"⟩
abbrev cX12_isChild : ByteArray := prog_14_method_10_code
def yX12_isChild : MethodName := ⟨RX12, "isChild", "(I)Z"⟩
abbrev cX12_isCell : ByteArray := prog_14_method_11_code
def yX12_isCell : MethodName := ⟨RX12, "isCell", "(I)Z"⟩
abbrev cX12_isMinute : ByteArray := prog_14_method_12_code
def yX12_isMinute : MethodName := ⟨RX12, "isMinute", "(I)Z"⟩
abbrev cX12_get : ByteArray := prog_14_method_13_code
def yX12_get : MethodName := ⟨RX12, "get", "(II)I"⟩
abbrev cX12_all : ByteArray := prog_14_method_14_code
def yX12_all : MethodName := ⟨RX12, "all", "()I"⟩
abbrev cX12_road : ByteArray := prog_14_method_15_code
def yX12_road : MethodName := ⟨RX12, "road", "(II)I"⟩
abbrev cX12_rule : ByteArray := prog_14_method_16_code
def yX12_rule : MethodName := ⟨RX12, "rule", "(I)I"⟩
abbrev cX12_sight : ByteArray := prog_14_method_17_code
def yX12_sight : MethodName := ⟨RX12, "sight", "(I)I"⟩
abbrev cX12_layChild : ByteArray := prog_14_method_18_code
def yX12_layChild : MethodName := ⟨RX12, "layChild", "([IIIIII)V"⟩
abbrev cX12_child : ByteArray := prog_14_method_19_code
def yX12_child : MethodName := ⟨RX12, "child", "(IIIII)I"⟩
abbrev cX12_keep : ByteArray := prog_14_method_20_code
def yX12_keep : MethodName := ⟨RX12, "keep", "()V"⟩
abbrev cX12_tellAnew : ByteArray := prog_14_method_21_code
def yX12_tellAnew : MethodName := ⟨RX12, "tellAnew", "(III)I"⟩
abbrev cX12_stand : ByteArray := prog_14_method_22_code
def yX12_stand : MethodName := ⟨RX12, "stand", "(II)I"⟩
abbrev cX12_bed : ByteArray := prog_14_method_23_code
def yX12_bed : MethodName := ⟨RX12, "bed", "(II)I"⟩
abbrev cX12_undo : ByteArray := prog_14_method_24_code
def yX12_undo : MethodName := ⟨RX12, "undo", "()I"⟩
abbrev cX12_layHand : ByteArray := prog_14_method_25_code
def yX12_layHand : MethodName := ⟨RX12, "layHand", "(I)V"⟩
abbrev cX12_cellOf : ByteArray := prog_14_method_26_code
def yX12_cellOf : MethodName := ⟨RX12, "cellOf", "(II)I"⟩
abbrev cX12_least : ByteArray := prog_14_method_27_code
def yX12_least : MethodName := ⟨RX12, "least", "(II)I"⟩
abbrev cX12_most : ByteArray := prog_14_method_28_code
def yX12_most : MethodName := ⟨RX12, "most", "(II)I"⟩
abbrev cX12_countsOf : ByteArray := prog_14_method_29_code
def yX12_countsOf : MethodName := ⟨RX12, "countsOf", "(II)I"⟩
abbrev cX12_isOut : ByteArray := prog_14_method_30_code
def yX12_isOut : MethodName := ⟨RX12, "isOut", "(II)Z"⟩
abbrev cX12_apart : ByteArray := prog_14_method_31_code
def yX12_apart : MethodName := ⟨RX12, "apart", "(II)I"⟩
abbrev cX12_isSeen : ByteArray := prog_14_method_32_code
def yX12_isSeen : MethodName := ⟨RX12, "isSeen", "(III)Z"⟩
abbrev cX12_nearest : ByteArray := prog_14_method_33_code
def yX12_nearest : MethodName := ⟨RX12, "nearest", "(III)I"⟩
abbrev cX12_lowest : ByteArray := prog_14_method_34_code
def yX12_lowest : MethodName := ⟨RX12, "lowest", "(II)I"⟩
abbrev cX12_limitAt : ByteArray := prog_14_method_35_code
def yX12_limitAt : MethodName := ⟨RX12, "limitAt", "(II)I"⟩
abbrev cX12_of : ByteArray := prog_14_method_36_code
def yX12_of : MethodName := ⟨RX12, "of", "(III)I"⟩
abbrev cX12_limit : ByteArray := prog_14_method_37_code
def yX12_limit : MethodName := ⟨RX12, "limit", "(III)I"⟩
abbrev cX12_whereAt : ByteArray := prog_14_method_38_code
def yX12_whereAt : MethodName := ⟨RX12, "whereAt", "(II)I"⟩
abbrev cX12_thereFrom : ByteArray := prog_14_method_39_code
def yX12_thereFrom : MethodName := ⟨RX12, "thereFrom", "(I)I"⟩
abbrev cX12_orNone : ByteArray := prog_14_method_40_code
def yX12_orNone : MethodName := ⟨RX12, "orNone", "(I)I"⟩
abbrev cX12_where : ByteArray := prog_14_method_41_code
def yX12_where : MethodName := ⟨RX12, "where", "(II)I"⟩
abbrev cX12_there : ByteArray := prog_14_method_42_code
def yX12_there : MethodName := ⟨RX12, "there", "(I)I"⟩
abbrev cX12_goOn : ByteArray := prog_14_method_43_code
def yX12_goOn : MethodName := ⟨RX12, "goOn", "(I)V"⟩
abbrev cX12_soonestFrom : ByteArray := prog_14_method_44_code
def yX12_soonestFrom : MethodName := ⟨RX12, "soonestFrom", "(I)I"⟩
abbrev cX12_soonest : ByteArray := prog_14_method_45_code
def yX12_soonest : MethodName := ⟨RX12, "soonest", "(I)I"⟩
abbrev cX12_start : ByteArray := prog_14_method_46_code
def yX12_start : MethodName := ⟨RX12, "start", "(I)I"⟩
abbrev cX12_speed : ByteArray := prog_14_method_47_code
def yX12_speed : MethodName := ⟨RX12, "speed", "(I)I"⟩
abbrev cX12_stop : ByteArray := prog_14_method_48_code
def yX12_stop : MethodName := ⟨RX12, "stop", "()I"⟩
abbrev cX12_pastIn : ByteArray := prog_14_method_49_code
def yX12_pastIn : MethodName := ⟨RX12, "pastIn", "(III)I"⟩
abbrev cX12_fined : ByteArray := prog_14_method_50_code
def yX12_fined : MethodName := ⟨RX12, "fined", "(II)I"⟩
abbrev cX12_toBed : ByteArray := prog_14_method_51_code
def yX12_toBed : MethodName := ⟨RX12, "toBed", "(III)I"⟩
abbrev cX12_move : ByteArray := prog_14_method_52_code
def yX12_move : MethodName := ⟨RX12, "move", "(I)I"⟩
abbrev cX12_layGets : ByteArray := prog_14_method_53_code
def yX12_layGets : MethodName := ⟨RX12, "layGets", "(I)V"⟩
abbrev cX12_rests : ByteArray := prog_14_method_54_code
def yX12_rests : MethodName := ⟨RX12, "rests", "(II)Z"⟩
abbrev cX12_carters : ByteArray := prog_14_method_55_code
def yX12_carters : MethodName := ⟨RX12, "carters", "(II)I"⟩
abbrev cX12_reading : ByteArray := prog_14_method_56_code
def yX12_reading : MethodName := ⟨RX12, "reading", "(III)I"⟩
abbrev cX12_forget : ByteArray := prog_14_method_57_code
def yX12_forget : MethodName := ⟨RX12, "forget", "()I"⟩
abbrev cX12_areSo : ByteArray := prog_14_method_58_code
def yX12_areSo : MethodName := ⟨RX12, "areSo", "()Z"⟩
abbrev cX12_out : ByteArray := prog_14_method_59_code
def yX12_out : MethodName := ⟨RX12, "out", "(I)I"⟩
abbrev cX12_mostLike : ByteArray := prog_14_method_60_code
def yX12_mostLike : MethodName := ⟨RX12, "mostLike", "(II)I"⟩
abbrev cX12_look : ByteArray := prog_14_method_61_code
def yX12_look : MethodName := ⟨RX12, "look", "(I)I"⟩
abbrev cX12_dolls : ByteArray := prog_14_method_62_code
def yX12_dolls : MethodName := ⟨RX12, "dolls", "()I"⟩
abbrev cX12_fraction : ByteArray := prog_14_method_63_code
def yX12_fraction : MethodName := ⟨RX12, "fraction", "(II)V"⟩
abbrev cX12_days : ByteArray := prog_14_method_64_code
def yX12_days : MethodName := ⟨RX12, "days", "(III)I"⟩
abbrev cX12_type : ByteArray := prog_14_method_65_code
def yX12_type : MethodName := ⟨RX12, "type", "(I)I"⟩
abbrev cX12_clear : ByteArray := prog_14_method_66_code
def yX12_clear : MethodName := ⟨RX12, "clear", "()I"⟩
abbrev cX12_isSmall : ByteArray := prog_14_method_67_code
def yX12_isSmall : MethodName := ⟨RX12, "isSmall", "(I)Z"⟩
abbrev cX12_isFigure : ByteArray := prog_14_method_68_code
def yX12_isFigure : MethodName := ⟨RX12, "isFigure", "(I)Z"⟩
abbrev cX12_lookAt : ByteArray := prog_14_method_69_code
def yX12_lookAt : MethodName := ⟨RX12, "lookAt", "(I)V"⟩
abbrev cX12_goBehind : ByteArray := prog_14_method_70_code
def yX12_goBehind : MethodName := ⟨RX12, "goBehind", "()V"⟩
abbrev cX12_isCalled : ByteArray := prog_14_method_71_code
def yX12_isCalled : MethodName := ⟨RX12, "isCalled", "(IIIIII)Z"⟩
abbrev cX12_takes : ByteArray := prog_14_method_72_code
def yX12_takes : MethodName := ⟨RX12, "takes", "(III)Z"⟩
abbrev cX12_takesFirst : ByteArray := prog_14_method_73_code
def yX12_takesFirst : MethodName := ⟨RX12, "takesFirst", "()Z"⟩
abbrev cX12_takesChild : ByteArray := prog_14_method_74_code
def yX12_takesChild : MethodName := ⟨RX12, "takesChild", "()Z"⟩
abbrev cX12_read : ByteArray := prog_14_method_75_code
def yX12_read : MethodName := ⟨RX12, "read", "()I"⟩
abbrev cX12_part : ByteArray := prog_14_method_76_code
def yX12_part : MethodName := ⟨RX12, "part", "(I)J"⟩
abbrev cX12_image : ByteArray := prog_14_method_77_code
def yX12_image : MethodName := ⟨RX12, "image", "(I)I"⟩
abbrev cX12_from : ByteArray := prog_14_method_78_code
def yX12_from : MethodName := ⟨RX12, "from", "(I)I"⟩
abbrev cX12_status : ByteArray := prog_14_method_79_code
def yX12_status : MethodName := ⟨RX12, "status", "(I)I"⟩
abbrev cX12_counted : ByteArray := prog_14_method_80_code
def yX12_counted : MethodName := ⟨RX12, "counted", "(I)I"⟩
abbrev cX12_count : ByteArray := prog_14_method_81_code
def yX12_count : MethodName := ⟨RX12, "count", "(I)I"⟩
abbrev cX12_sums : ByteArray := prog_14_method_82_code
def yX12_sums : MethodName := ⟨RX12, "sums", "(JII)J"⟩
abbrev cX12_digest : ByteArray := prog_14_method_83_code
def yX12_digest : MethodName := ⟨RX12, "digest", "()J"⟩
def RJ6 : String := "java/lang/Integer"
def TJ6 : u_T := fun k => match k with
  | _ => ("", "", "", false)
def tyJ6 : Nat → FieldType := fun k => match k with
  | _ => .int
abbrev wsJ60 : List Cond := u_ws RJ6 TJ6 0
theorem nmJ6 : ∀ a, a < 0 → ∀ b, b < 0 → a ≠ b → (TJ6 a).2.1 ≠ (TJ6 b).2.1 := by decide +kernel
theorem tyJ6_ok : ∀ k, k < 0 → parseFieldDescriptor (TJ6 k).2.2.1 = some (tyJ6 k) := by decide +kernel
abbrev cJ6_bitCount_0f7a4 : ByteArray := prog_15_method_49_code
def yJ6_bitCount_0f7a4 : MethodName := ⟨RJ6, "bitCount", "(I)I"⟩
def RJ13 : String := "java/lang/Long"
def TJ13 : u_T := fun k => match k with
  | _ => ("", "", "", false)
def tyJ13 : Nat → FieldType := fun k => match k with
  | _ => .int
abbrev wsJ130 : List Cond := u_ws RJ13 TJ13 0
theorem nmJ13 : ∀ a, a < 0 → ∀ b, b < 0 → a ≠ b → (TJ13 a).2.1 ≠ (TJ13 b).2.1 := by decide +kernel
theorem tyJ13_ok : ∀ k, k < 0 → parseFieldDescriptor (TJ13 k).2.2.1 = some (tyJ13 k) := by decide +kernel
abbrev cJ13_bitCount_95d88 : ByteArray := prog_16_method_50_code
def yJ13_bitCount_95d88 : MethodName := ⟨RJ13, "bitCount", "(J)I"⟩
def RJ9 : String := "java/lang/Math"
def TJ9 : u_T := fun k => match k with
  | _ => ("", "", "", false)
def tyJ9 : Nat → FieldType := fun k => match k with
  | _ => .int
abbrev wsJ90 : List Cond := u_ws RJ9 TJ9 0
theorem nmJ9 : ∀ a, a < 0 → ∀ b, b < 0 → a ≠ b → (TJ9 a).2.1 ≠ (TJ9 b).2.1 := by decide +kernel
theorem tyJ9_ok : ∀ k, k < 0 → parseFieldDescriptor (TJ9 k).2.2.1 = some (tyJ9 k) := by decide +kernel
abbrev cJ9_abs_0f7a4 : ByteArray := prog_17_method_59_code
def yJ9_abs_0f7a4 : MethodName := ⟨RJ9, "abs", "(I)I"⟩
abbrev cJ9_max_7cf53 : ByteArray := prog_17_method_65_code
def yJ9_max_7cf53 : MethodName := ⟨RJ9, "max", "(II)I"⟩
abbrev cJ9_min_7cf53 : ByteArray := prog_17_method_69_code
def yJ9_min_7cf53 : MethodName := ⟨RJ9, "min", "(II)I"⟩
def RJ0 : String := "java/lang/String"
def TJ0 : u_T := fun k => match k with
  | _ => ("", "", "", false)
def tyJ0 : Nat → FieldType := fun k => match k with
  | _ => .int
abbrev wsJ00 : List Cond := u_ws RJ0 TJ0 0
theorem nmJ0 : ∀ a, a < 0 → ∀ b, b < 0 → a ≠ b → (TJ0 a).2.1 ≠ (TJ0 b).2.1 := by decide +kernel
theorem tyJ0_ok : ∀ k, k < 0 → parseFieldDescriptor (TJ0 k).2.2.1 = some (tyJ0 k) := by decide +kernel
abbrev cJ0_length_8abf5 : ByteArray := prog_18_method_54_code
def yJ0_length_8abf5 : MethodName := ⟨RJ0, "length", "()I"⟩
abbrev cJ0_charAt_5068e : ByteArray := prog_18_method_56_code
def yJ0_charAt_5068e : MethodName := ⟨RJ0, "charAt", "(I)C"⟩
abbrev cJ0_coder_7d493 : ByteArray := prog_18_method_152_code
def yJ0_coder_7d493 : MethodName := ⟨RJ0, "coder", "()B"⟩
abbrev cJ0_isLatin1_aae02 : ByteArray := prog_18_method_154_code
def yJ0_isLatin1_aae02 : MethodName := ⟨RJ0, "isLatin1", "()Z"⟩
abbrev cJ0_checkIndex_df160 : ByteArray := prog_18_method_155_code
def yJ0_checkIndex_df160 : MethodName := ⟨RJ0, "checkIndex", "(II)V"⟩
def RJ1 : String := "java/lang/StringLatin1"
def TJ1 : u_T := fun k => match k with
  | _ => ("", "", "", false)
def tyJ1 : Nat → FieldType := fun k => match k with
  | _ => .int
abbrev wsJ10 : List Cond := u_ws RJ1 TJ1 0
theorem nmJ1 : ∀ a, a < 0 → ∀ b, b < 0 → a ≠ b → (TJ1 a).2.1 ≠ (TJ1 b).2.1 := by decide +kernel
theorem tyJ1_ok : ∀ k, k < 0 → parseFieldDescriptor (TJ1 k).2.2.1 = some (tyJ1 k) := by decide +kernel
abbrev cJ1_charAt_3b067 : ByteArray := prog_19_method_2_code
def yJ1_charAt_3b067 : MethodName := ⟨RJ1, "charAt", "([BI)C"⟩
def RJ2 : String := "java/lang/StringUTF16"
def TJ2 : u_T := fun k => match k with
  | _ => ("", "", "", false)
def tyJ2 : Nat → FieldType := fun k => match k with
  | _ => .int
abbrev wsJ20 : List Cond := u_ws RJ2 TJ2 0
theorem nmJ2 : ∀ a, a < 0 → ∀ b, b < 0 → a ≠ b → (TJ2 a).2.1 ≠ (TJ2 b).2.1 := by decide +kernel
theorem tyJ2_ok : ∀ k, k < 0 → parseFieldDescriptor (TJ2 k).2.2.1 = some (tyJ2 k) := by decide +kernel
abbrev cJ2_getChar_3b067 : ByteArray := prog_20_method_5_code
def yJ2_getChar_3b067 : MethodName := ⟨RJ2, "getChar", "([BI)C"⟩
abbrev cJ2_length_9d52b : ByteArray := prog_20_method_6_code
def yJ2_length_9d52b : MethodName := ⟨RJ2, "length", "([B)I"⟩
abbrev cJ2_charAt_3b067 : ByteArray := prog_20_method_83_code
def yJ2_charAt_3b067 : MethodName := ⟨RJ2, "charAt", "([BI)C"⟩
abbrev cJ2_checkIndex_2214a : ByteArray := prog_20_method_91_code
def yJ2_checkIndex_2214a : MethodName := ⟨RJ2, "checkIndex", "(I[B)V"⟩
def RJ10 : String := "java/lang/System"
def TJ10 : u_T := fun k => match k with
  | _ => ("", "", "", false)
def tyJ10 : Nat → FieldType := fun k => match k with
  | _ => .int
abbrev wsJ100 : List Cond := u_ws RJ10 TJ10 0
theorem nmJ10 : ∀ a, a < 0 → ∀ b, b < 0 → a ≠ b → (TJ10 a).2.1 ≠ (TJ10 b).2.1 := by decide +kernel
theorem tyJ10_ok : ∀ k, k < 0 → parseFieldDescriptor (TJ10 k).2.2.1 = some (tyJ10 k) := by decide +kernel
def RJ3 : String := "jdk/internal/util/Preconditions"
def TJ3 : u_T := fun k => match k with
  | _ => ("", "", "", false)
def tyJ3 : Nat → FieldType := fun k => match k with
  | _ => .int
abbrev wsJ30 : List Cond := u_ws RJ3 TJ3 0
theorem nmJ3 : ∀ a, a < 0 → ∀ b, b < 0 → a ≠ b → (TJ3 a).2.1 ≠ (TJ3 b).2.1 := by decide +kernel
theorem tyJ3_ok : ∀ k, k < 0 → parseFieldDescriptor (TJ3 k).2.2.1 = some (tyJ3 k) := by decide +kernel
abbrev cJ3_checkIndex_8e157 : ByteArray := prog_22_method_11_code
def yJ3_checkIndex_8e157 : MethodName := ⟨RJ3, "checkIndex", "(IILjava/util/function/BiFunction;)I"⟩
def RL : String := "SmallestSpeedLaw"
abbrev cL_law : ByteArray := code
def yL_law : MethodName := ⟨RL, "law", "([I)Z"⟩
abbrev vwCl : List vw_C := [(RX0, TX0, 0), (RX1, TX1, 2), (RX2, TX2, 0), (RX3, TX3, 0), (RX4, TX4, 8), (RX5, TX5, 0), (RX6, TX6, 18), (RX7, TX7, 3), (RX8, TX8, 2), (RX9, TX9, 0), (RX10, TX10, 0), (RX11, TX11, 15), (RX12, TX12, 22)]
/-- what the tables say of links to a nest mate -/
def nestL : List (String × Nat × MethodName × String) := [("SmallestSpeed", 9, ⟨"SmallestSpeed$Road", "<init>", "()V"⟩, "SmallestSpeed"), ("SmallestSpeed", 27, ⟨"SmallestSpeed$RoadText", "<init>", "()V"⟩, "SmallestSpeed"), ("SmallestSpeed", 34, ⟨"SmallestSpeed$Limits", "<init>", "()V"⟩, "SmallestSpeed"), ("SmallestSpeed$Limits", 11, ⟨"SmallestSpeed$Walker", "<init>", "()V"⟩, "SmallestSpeed"), ("SmallestSpeed$Limits", 20, ⟨"SmallestSpeed$Held", "<init>", "()V"⟩, "SmallestSpeed"), ("SmallestSpeed$Held", 3, ⟨"SmallestSpeed$Walker", "<init>", "()V"⟩, "SmallestSpeed"), ("SmallestSpeed$Limits", 26, ⟨"SmallestSpeed$Player", "<init>", "()V"⟩, "SmallestSpeed"), ("SmallestSpeed$Player", 3, ⟨"SmallestSpeed$Walker", "<init>", "()V"⟩, "SmallestSpeed"), ("SmallestSpeed$Limits", 32, ⟨"SmallestSpeed$Twin", "<init>", "()V"⟩, "SmallestSpeed"), ("SmallestSpeed$Twin", 1, ⟨"SmallestSpeed$Held", "<init>", "()V"⟩, "SmallestSpeed"), ("SmallestSpeed$Limits", 38, ⟨"SmallestSpeed$Grows", "<init>", "()V"⟩, "SmallestSpeed"), ("SmallestSpeed$Grows", 3, ⟨"SmallestSpeed$Walker", "<init>", "()V"⟩, "SmallestSpeed"), ("SmallestSpeed$Limits", 44, ⟨"SmallestSpeed$Doll", "<init>", "()V"⟩, "SmallestSpeed"), ("SmallestSpeed$Doll", 1, ⟨"SmallestSpeed$Player", "<init>", "()V"⟩, "SmallestSpeed"), ("SmallestSpeed", 41, ⟨"SmallestSpeed$Drives", "<init>", "()V"⟩, "SmallestSpeed"), ("SmallestSpeed$Drives", 11, ⟨"SmallestSpeed$Limits", "<init>", "()V"⟩, "SmallestSpeed"), ("SmallestSpeed", 48, ⟨"SmallestSpeed$Sightings", "<init>", "()V"⟩, "SmallestSpeed"), ("SmallestSpeed$Sightings", 11, ⟨"SmallestSpeed$Limits", "<init>", "()V"⟩, "SmallestSpeed")]
