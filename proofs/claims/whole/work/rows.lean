section
-- ===== PART A: goes FIRST, ahead of the names: the tables' words, and 'selects' of the private methods out of them =====
/-- a private method of a class that the tables say can be made, by its rows of tables_1 -/
def lw_okq (q : MethodName × Nat) : Prop := (q.1.cls ≠ "java/lang/invoke/MethodHandle" ∧ q.1.cls ≠ "java/lang/invoke/VarHandle") ∧ Cond.instantiable q.1.cls q.2 ∈ tables_1 ∧ Cond.privateMethod q.1 ∈ tables_1 ∧ Cond.instanceMethod q.1 ∈ tables_1
theorem lw_p0 : lw_okq (⟨"SmallestSpeed", "refuseBad", "(I)I"⟩, 15) := ⟨⟨by decide +kernel, by decide +kernel⟩, List.mem_of_getElem? (i := 23) (by decide +kernel), List.mem_of_getElem? (i := 298) (by decide +kernel), List.mem_of_getElem? (i := 299) (by decide +kernel)⟩
theorem lw_p1 : lw_okq (⟨"SmallestSpeed", "refuseFull", "()I"⟩, 15) := ⟨⟨by decide +kernel, by decide +kernel⟩, List.mem_of_getElem? (i := 23) (by decide +kernel), List.mem_of_getElem? (i := 321) (by decide +kernel), List.mem_of_getElem? (i := 322) (by decide +kernel)⟩
theorem lw_p2 : lw_okq (⟨"SmallestSpeed", "isChild", "(I)Z"⟩, 15) := ⟨⟨by decide +kernel, by decide +kernel⟩, List.mem_of_getElem? (i := 23) (by decide +kernel), List.mem_of_getElem? (i := 333) (by decide +kernel), List.mem_of_getElem? (i := 334) (by decide +kernel)⟩
theorem lw_p3 : lw_okq (⟨"SmallestSpeed", "refuseNo", "()I"⟩, 15) := ⟨⟨by decide +kernel, by decide +kernel⟩, List.mem_of_getElem? (i := 23) (by decide +kernel), List.mem_of_getElem? (i := 352) (by decide +kernel), List.mem_of_getElem? (i := 353) (by decide +kernel)⟩
theorem lw_p4 : lw_okq (⟨"SmallestSpeed", "keepFraction", "(II)V"⟩, 15) := ⟨⟨by decide +kernel, by decide +kernel⟩, List.mem_of_getElem? (i := 23) (by decide +kernel), List.mem_of_getElem? (i := 742) (by decide +kernel), List.mem_of_getElem? (i := 743) (by decide +kernel)⟩
theorem lw_p5 : lw_okq (⟨"SmallestSpeed", "countOf", "(I)I"⟩, 15) := ⟨⟨by decide +kernel, by decide +kernel⟩, List.mem_of_getElem? (i := 23) (by decide +kernel), List.mem_of_getElem? (i := 766) (by decide +kernel), List.mem_of_getElem? (i := 767) (by decide +kernel)⟩
theorem lw_p6 : lw_okq (⟨"SmallestSpeedModel", "bad", "(I)I"⟩, 22) := ⟨⟨by decide +kernel, by decide +kernel⟩, List.mem_of_getElem? (i := 781) (by decide +kernel), List.mem_of_getElem? (i := 866) (by decide +kernel), List.mem_of_getElem? (i := 867) (by decide +kernel)⟩
theorem lw_p7 : lw_okq (⟨"SmallestSpeedModel", "children", "()I"⟩, 22) := ⟨⟨by decide +kernel, by decide +kernel⟩, List.mem_of_getElem? (i := 781) (by decide +kernel), List.mem_of_getElem? (i := 870) (by decide +kernel), List.mem_of_getElem? (i := 871) (by decide +kernel)⟩
theorem lw_p8 : lw_okq (⟨"SmallestSpeedModel", "full", "()I"⟩, 22) := ⟨⟨by decide +kernel, by decide +kernel⟩, List.mem_of_getElem? (i := 781) (by decide +kernel), List.mem_of_getElem? (i := 893) (by decide +kernel), List.mem_of_getElem? (i := 894) (by decide +kernel)⟩
theorem lw_p9 : lw_okq (⟨"SmallestSpeedModel", "isChild", "(I)Z"⟩, 22) := ⟨⟨by decide +kernel, by decide +kernel⟩, List.mem_of_getElem? (i := 781) (by decide +kernel), List.mem_of_getElem? (i := 904) (by decide +kernel), List.mem_of_getElem? (i := 905) (by decide +kernel)⟩
theorem lw_p10 : lw_okq (⟨"SmallestSpeedModel", "tellAnew", "(III)I"⟩, 22) := ⟨⟨by decide +kernel, by decide +kernel⟩, List.mem_of_getElem? (i := 781) (by decide +kernel), List.mem_of_getElem? (i := 908) (by decide +kernel), List.mem_of_getElem? (i := 909) (by decide +kernel)⟩
theorem lw_p11 : lw_okq (⟨"SmallestSpeedModel", "get", "(II)I"⟩, 22) := ⟨⟨by decide +kernel, by decide +kernel⟩, List.mem_of_getElem? (i := 781) (by decide +kernel), List.mem_of_getElem? (i := 912) (by decide +kernel), List.mem_of_getElem? (i := 913) (by decide +kernel)⟩
theorem lw_p12 : lw_okq (⟨"SmallestSpeedModel", "keep", "()V"⟩, 22) := ⟨⟨by decide +kernel, by decide +kernel⟩, List.mem_of_getElem? (i := 781) (by decide +kernel), List.mem_of_getElem? (i := 916) (by decide +kernel), List.mem_of_getElem? (i := 917) (by decide +kernel)⟩
theorem lw_p13 : lw_okq (⟨"SmallestSpeedModel", "no", "()I"⟩, 22) := ⟨⟨by decide +kernel, by decide +kernel⟩, List.mem_of_getElem? (i := 781) (by decide +kernel), List.mem_of_getElem? (i := 928) (by decide +kernel), List.mem_of_getElem? (i := 929) (by decide +kernel)⟩
theorem lw_p14 : lw_okq (⟨"SmallestSpeedModel", "all", "()I"⟩, 22) := ⟨⟨by decide +kernel, by decide +kernel⟩, List.mem_of_getElem? (i := 781) (by decide +kernel), List.mem_of_getElem? (i := 940) (by decide +kernel), List.mem_of_getElem? (i := 941) (by decide +kernel)⟩
theorem lw_p15 : lw_okq (⟨"SmallestSpeedModel", "layHand", "(I)V"⟩, 22) := ⟨⟨by decide +kernel, by decide +kernel⟩, List.mem_of_getElem? (i := 781) (by decide +kernel), List.mem_of_getElem? (i := 944) (by decide +kernel), List.mem_of_getElem? (i := 945) (by decide +kernel)⟩
def lw_privs_1 : List (MethodName × Nat) := [(⟨"SmallestSpeed", "refuseBad", "(I)I"⟩, 15), (⟨"SmallestSpeed", "refuseFull", "()I"⟩, 15), (⟨"SmallestSpeed", "isChild", "(I)Z"⟩, 15), (⟨"SmallestSpeed", "refuseNo", "()I"⟩, 15), (⟨"SmallestSpeed", "keepFraction", "(II)V"⟩, 15), (⟨"SmallestSpeed", "countOf", "(I)I"⟩, 15), (⟨"SmallestSpeedModel", "bad", "(I)I"⟩, 22), (⟨"SmallestSpeedModel", "children", "()I"⟩, 22), (⟨"SmallestSpeedModel", "full", "()I"⟩, 22), (⟨"SmallestSpeedModel", "isChild", "(I)Z"⟩, 22), (⟨"SmallestSpeedModel", "tellAnew", "(III)I"⟩, 22), (⟨"SmallestSpeedModel", "get", "(II)I"⟩, 22), (⟨"SmallestSpeedModel", "keep", "()V"⟩, 22), (⟨"SmallestSpeedModel", "no", "()I"⟩, 22), (⟨"SmallestSpeedModel", "all", "()I"⟩, 22), (⟨"SmallestSpeedModel", "layHand", "(I)V"⟩, 22)]
theorem lw_r1 : ∀ q ∈ lw_privs_1, lw_okq q := List.forall_mem_cons.mpr ⟨lw_p0, List.forall_mem_cons.mpr ⟨lw_p1, List.forall_mem_cons.mpr ⟨lw_p2, List.forall_mem_cons.mpr ⟨lw_p3, List.forall_mem_cons.mpr ⟨lw_p4, List.forall_mem_cons.mpr ⟨lw_p5, List.forall_mem_cons.mpr ⟨lw_p6, List.forall_mem_cons.mpr ⟨lw_p7, List.forall_mem_cons.mpr ⟨lw_p8, List.forall_mem_cons.mpr ⟨lw_p9, List.forall_mem_cons.mpr ⟨lw_p10, List.forall_mem_cons.mpr ⟨lw_p11, List.forall_mem_cons.mpr ⟨lw_p12, List.forall_mem_cons.mpr ⟨lw_p13, List.forall_mem_cons.mpr ⟨lw_p14, List.forall_mem_cons.mpr ⟨lw_p15, fun _ h => absurd h List.not_mem_nil⟩⟩⟩⟩⟩⟩⟩⟩⟩⟩⟩⟩⟩⟩⟩⟩
theorem lw_p16 : lw_okq (⟨"SmallestSpeedModel", "cellOf", "(II)I"⟩, 22) := ⟨⟨by decide +kernel, by decide +kernel⟩, List.mem_of_getElem? (i := 781) (by decide +kernel), List.mem_of_getElem? (i := 948) (by decide +kernel), List.mem_of_getElem? (i := 949) (by decide +kernel)⟩
theorem lw_p17 : lw_okq (⟨"SmallestSpeedModel", "isOut", "(II)Z"⟩, 22) := ⟨⟨by decide +kernel, by decide +kernel⟩, List.mem_of_getElem? (i := 781) (by decide +kernel), List.mem_of_getElem? (i := 952) (by decide +kernel), List.mem_of_getElem? (i := 953) (by decide +kernel)⟩
theorem lw_p18 : lw_okq (⟨"SmallestSpeedModel", "countsOf", "(II)I"⟩, 22) := ⟨⟨by decide +kernel, by decide +kernel⟩, List.mem_of_getElem? (i := 781) (by decide +kernel), List.mem_of_getElem? (i := 956) (by decide +kernel), List.mem_of_getElem? (i := 957) (by decide +kernel)⟩
theorem lw_p19 : lw_okq (⟨"SmallestSpeedModel", "limitAt", "(II)I"⟩, 22) := ⟨⟨by decide +kernel, by decide +kernel⟩, List.mem_of_getElem? (i := 781) (by decide +kernel), List.mem_of_getElem? (i := 970) (by decide +kernel), List.mem_of_getElem? (i := 971) (by decide +kernel)⟩
theorem lw_p20 : lw_okq (⟨"SmallestSpeedModel", "nearest", "(III)I"⟩, 22) := ⟨⟨by decide +kernel, by decide +kernel⟩, List.mem_of_getElem? (i := 781) (by decide +kernel), List.mem_of_getElem? (i := 974) (by decide +kernel), List.mem_of_getElem? (i := 975) (by decide +kernel)⟩
theorem lw_p21 : lw_okq (⟨"SmallestSpeedModel", "isSeen", "(III)Z"⟩, 22) := ⟨⟨by decide +kernel, by decide +kernel⟩, List.mem_of_getElem? (i := 781) (by decide +kernel), List.mem_of_getElem? (i := 978) (by decide +kernel), List.mem_of_getElem? (i := 979) (by decide +kernel)⟩
theorem lw_p22 : lw_okq (⟨"SmallestSpeedModel", "lowest", "(II)I"⟩, 22) := ⟨⟨by decide +kernel, by decide +kernel⟩, List.mem_of_getElem? (i := 781) (by decide +kernel), List.mem_of_getElem? (i := 986) (by decide +kernel), List.mem_of_getElem? (i := 987) (by decide +kernel)⟩
theorem lw_p23 : lw_okq (⟨"SmallestSpeedModel", "whereAt", "(II)I"⟩, 22) := ⟨⟨by decide +kernel, by decide +kernel⟩, List.mem_of_getElem? (i := 781) (by decide +kernel), List.mem_of_getElem? (i := 994) (by decide +kernel), List.mem_of_getElem? (i := 995) (by decide +kernel)⟩
theorem lw_p24 : lw_okq (⟨"SmallestSpeedModel", "thereFrom", "(I)I"⟩, 22) := ⟨⟨by decide +kernel, by decide +kernel⟩, List.mem_of_getElem? (i := 781) (by decide +kernel), List.mem_of_getElem? (i := 1002) (by decide +kernel), List.mem_of_getElem? (i := 1003) (by decide +kernel)⟩
theorem lw_p25 : lw_okq (⟨"SmallestSpeedModel", "soonestFrom", "(I)I"⟩, 22) := ⟨⟨by decide +kernel, by decide +kernel⟩, List.mem_of_getElem? (i := 781) (by decide +kernel), List.mem_of_getElem? (i := 1013) (by decide +kernel), List.mem_of_getElem? (i := 1014) (by decide +kernel)⟩
theorem lw_p26 : lw_okq (⟨"SmallestSpeedModel", "goOn", "(I)V"⟩, 22) := ⟨⟨by decide +kernel, by decide +kernel⟩, List.mem_of_getElem? (i := 781) (by decide +kernel), List.mem_of_getElem? (i := 1017) (by decide +kernel), List.mem_of_getElem? (i := 1018) (by decide +kernel)⟩
theorem lw_p27 : lw_okq (⟨"SmallestSpeedModel", "pastIn", "(III)I"⟩, 22) := ⟨⟨by decide +kernel, by decide +kernel⟩, List.mem_of_getElem? (i := 781) (by decide +kernel), List.mem_of_getElem? (i := 1038) (by decide +kernel), List.mem_of_getElem? (i := 1039) (by decide +kernel)⟩
theorem lw_p28 : lw_okq (⟨"SmallestSpeedModel", "layGets", "(I)V"⟩, 22) := ⟨⟨by decide +kernel, by decide +kernel⟩, List.mem_of_getElem? (i := 781) (by decide +kernel), List.mem_of_getElem? (i := 1059) (by decide +kernel), List.mem_of_getElem? (i := 1060) (by decide +kernel)⟩
theorem lw_p29 : lw_okq (⟨"SmallestSpeedModel", "rests", "(II)Z"⟩, 22) := ⟨⟨by decide +kernel, by decide +kernel⟩, List.mem_of_getElem? (i := 781) (by decide +kernel), List.mem_of_getElem? (i := 1063) (by decide +kernel), List.mem_of_getElem? (i := 1064) (by decide +kernel)⟩
theorem lw_p30 : lw_okq (⟨"SmallestSpeedModel", "areSo", "()Z"⟩, 22) := ⟨⟨by decide +kernel, by decide +kernel⟩, List.mem_of_getElem? (i := 781) (by decide +kernel), List.mem_of_getElem? (i := 1079) (by decide +kernel), List.mem_of_getElem? (i := 1080) (by decide +kernel)⟩
theorem lw_p31 : lw_okq (⟨"SmallestSpeedModel", "mostLike", "(II)I"⟩, 22) := ⟨⟨by decide +kernel, by decide +kernel⟩, List.mem_of_getElem? (i := 781) (by decide +kernel), List.mem_of_getElem? (i := 1087) (by decide +kernel), List.mem_of_getElem? (i := 1088) (by decide +kernel)⟩
def lw_privs_2 : List (MethodName × Nat) := [(⟨"SmallestSpeedModel", "cellOf", "(II)I"⟩, 22), (⟨"SmallestSpeedModel", "isOut", "(II)Z"⟩, 22), (⟨"SmallestSpeedModel", "countsOf", "(II)I"⟩, 22), (⟨"SmallestSpeedModel", "limitAt", "(II)I"⟩, 22), (⟨"SmallestSpeedModel", "nearest", "(III)I"⟩, 22), (⟨"SmallestSpeedModel", "isSeen", "(III)Z"⟩, 22), (⟨"SmallestSpeedModel", "lowest", "(II)I"⟩, 22), (⟨"SmallestSpeedModel", "whereAt", "(II)I"⟩, 22), (⟨"SmallestSpeedModel", "thereFrom", "(I)I"⟩, 22), (⟨"SmallestSpeedModel", "soonestFrom", "(I)I"⟩, 22), (⟨"SmallestSpeedModel", "goOn", "(I)V"⟩, 22), (⟨"SmallestSpeedModel", "pastIn", "(III)I"⟩, 22), (⟨"SmallestSpeedModel", "layGets", "(I)V"⟩, 22), (⟨"SmallestSpeedModel", "rests", "(II)Z"⟩, 22), (⟨"SmallestSpeedModel", "areSo", "()Z"⟩, 22), (⟨"SmallestSpeedModel", "mostLike", "(II)I"⟩, 22)]
theorem lw_r2 : ∀ q ∈ lw_privs_2, lw_okq q := List.forall_mem_cons.mpr ⟨lw_p16, List.forall_mem_cons.mpr ⟨lw_p17, List.forall_mem_cons.mpr ⟨lw_p18, List.forall_mem_cons.mpr ⟨lw_p19, List.forall_mem_cons.mpr ⟨lw_p20, List.forall_mem_cons.mpr ⟨lw_p21, List.forall_mem_cons.mpr ⟨lw_p22, List.forall_mem_cons.mpr ⟨lw_p23, List.forall_mem_cons.mpr ⟨lw_p24, List.forall_mem_cons.mpr ⟨lw_p25, List.forall_mem_cons.mpr ⟨lw_p26, List.forall_mem_cons.mpr ⟨lw_p27, List.forall_mem_cons.mpr ⟨lw_p28, List.forall_mem_cons.mpr ⟨lw_p29, List.forall_mem_cons.mpr ⟨lw_p30, List.forall_mem_cons.mpr ⟨lw_p31, fun _ h => absurd h List.not_mem_nil⟩⟩⟩⟩⟩⟩⟩⟩⟩⟩⟩⟩⟩⟩⟩⟩
theorem lw_p32 : lw_okq (⟨"SmallestSpeedModel", "fraction", "(II)V"⟩, 22) := ⟨⟨by decide +kernel, by decide +kernel⟩, List.mem_of_getElem? (i := 781) (by decide +kernel), List.mem_of_getElem? (i := 1106) (by decide +kernel), List.mem_of_getElem? (i := 1107) (by decide +kernel)⟩
theorem lw_p33 : lw_okq (⟨"SmallestSpeedModel", "lookAt", "(I)V"⟩, 22) := ⟨⟨by decide +kernel, by decide +kernel⟩, List.mem_of_getElem? (i := 781) (by decide +kernel), List.mem_of_getElem? (i := 1123) (by decide +kernel), List.mem_of_getElem? (i := 1124) (by decide +kernel)⟩
theorem lw_p34 : lw_okq (⟨"SmallestSpeedModel", "takesFirst", "()Z"⟩, 22) := ⟨⟨by decide +kernel, by decide +kernel⟩, List.mem_of_getElem? (i := 781) (by decide +kernel), List.mem_of_getElem? (i := 1137) (by decide +kernel), List.mem_of_getElem? (i := 1138) (by decide +kernel)⟩
theorem lw_p35 : lw_okq (⟨"SmallestSpeedModel", "isCalled", "(IIIIII)Z"⟩, 22) := ⟨⟨by decide +kernel, by decide +kernel⟩, List.mem_of_getElem? (i := 781) (by decide +kernel), List.mem_of_getElem? (i := 1141) (by decide +kernel), List.mem_of_getElem? (i := 1142) (by decide +kernel)⟩
theorem lw_p36 : lw_okq (⟨"SmallestSpeedModel", "goBehind", "()V"⟩, 22) := ⟨⟨by decide +kernel, by decide +kernel⟩, List.mem_of_getElem? (i := 781) (by decide +kernel), List.mem_of_getElem? (i := 1145) (by decide +kernel), List.mem_of_getElem? (i := 1146) (by decide +kernel)⟩
theorem lw_p37 : lw_okq (⟨"SmallestSpeedModel", "takes", "(III)Z"⟩, 22) := ⟨⟨by decide +kernel, by decide +kernel⟩, List.mem_of_getElem? (i := 781) (by decide +kernel), List.mem_of_getElem? (i := 1149) (by decide +kernel), List.mem_of_getElem? (i := 1150) (by decide +kernel)⟩
theorem lw_p38 : lw_okq (⟨"SmallestSpeedModel", "takesChild", "()Z"⟩, 22) := ⟨⟨by decide +kernel, by decide +kernel⟩, List.mem_of_getElem? (i := 781) (by decide +kernel), List.mem_of_getElem? (i := 1153) (by decide +kernel), List.mem_of_getElem? (i := 1154) (by decide +kernel)⟩
theorem lw_p39 : lw_okq (⟨"SmallestSpeedModel", "counted", "(I)I"⟩, 22) := ⟨⟨by decide +kernel, by decide +kernel⟩, List.mem_of_getElem? (i := 781) (by decide +kernel), List.mem_of_getElem? (i := 1177) (by decide +kernel), List.mem_of_getElem? (i := 1178) (by decide +kernel)⟩
theorem lw_p40 : lw_okq (⟨"SmallestSpeedModel", "sums", "(JII)J"⟩, 22) := ⟨⟨by decide +kernel, by decide +kernel⟩, List.mem_of_getElem? (i := 781) (by decide +kernel), List.mem_of_getElem? (i := 1187) (by decide +kernel), List.mem_of_getElem? (i := 1188) (by decide +kernel)⟩
def lw_privs_3 : List (MethodName × Nat) := [(⟨"SmallestSpeedModel", "fraction", "(II)V"⟩, 22), (⟨"SmallestSpeedModel", "lookAt", "(I)V"⟩, 22), (⟨"SmallestSpeedModel", "takesFirst", "()Z"⟩, 22), (⟨"SmallestSpeedModel", "isCalled", "(IIIIII)Z"⟩, 22), (⟨"SmallestSpeedModel", "goBehind", "()V"⟩, 22), (⟨"SmallestSpeedModel", "takes", "(III)Z"⟩, 22), (⟨"SmallestSpeedModel", "takesChild", "()Z"⟩, 22), (⟨"SmallestSpeedModel", "counted", "(I)I"⟩, 22), (⟨"SmallestSpeedModel", "sums", "(JII)J"⟩, 22)]
theorem lw_r3 : ∀ q ∈ lw_privs_3, lw_okq q := List.forall_mem_cons.mpr ⟨lw_p32, List.forall_mem_cons.mpr ⟨lw_p33, List.forall_mem_cons.mpr ⟨lw_p34, List.forall_mem_cons.mpr ⟨lw_p35, List.forall_mem_cons.mpr ⟨lw_p36, List.forall_mem_cons.mpr ⟨lw_p37, List.forall_mem_cons.mpr ⟨lw_p38, List.forall_mem_cons.mpr ⟨lw_p39, List.forall_mem_cons.mpr ⟨lw_p40, fun _ h => absurd h List.not_mem_nil⟩⟩⟩⟩⟩⟩⟩⟩⟩
def lw_privs : List (MethodName × Nat) := lw_privs_1 ++ (lw_privs_2 ++ (lw_privs_3))
def lw_tbl : List Cond := k2_sels lw_privs ++ tables_1
theorem lw_privs_ok : ∀ q ∈ lw_privs, lw_okq q := by
  show ∀ q ∈ lw_privs_1 ++ (lw_privs_2 ++ (lw_privs_3)), lw_okq q
  exact List.forall_mem_append.mpr ⟨lw_r1, List.forall_mem_append.mpr ⟨lw_r2, lw_r3⟩⟩
/-! names, out of claim/NAMES.whole.lean.txt -/
def RX0 : String := "SmallestSpeed$Doll"
def TX0 : u_T := fun k => match k with
  | _ => ("", "", "", false)
def tyX0 : Nat → FieldType := fun k => match k with
  | _ => .int
abbrev wsX00 : List Cond := u_ws RX0 TX0 0
theorem nmX0 : ∀ a, a < 0 → ∀ b, b < 0 → a ≠ b → (TX0 a).2.1 ≠ (TX0 b).2.1 := by decide +kernel
theorem tyX0_ok : ∀ k, k < 0 → parseFieldDescriptor (TX0 k).2.2.1 = some (tyX0 k) := by decide +kernel
abbrev cX0_init : ByteArray := prog_2_method_1_code
def yX0_init : MethodName := ⟨RX0, "<init>", "()V"⟩
abbrev cX0_highIn : ByteArray := prog_2_method_2_code
def yX0_highIn : MethodName := ⟨RX0, "highIn", "(II)I"⟩
def RX1 : String := "SmallestSpeed$Drives"
def TX1 : u_T := fun k => match k with
  | 0 => ("SmallestSpeed$Drives", "limits", "LSmallestSpeed$Limits;", true)
  | _ => ("SmallestSpeed$Drives", "ends", "[I", true)
def tyX1 : Nat → FieldType := fun k => match k with
  | 0 => .object "SmallestSpeed$Limits"
  | _ => .array .int
abbrev wsX10 : List Cond := u_ws RX1 TX1 2
theorem nmX1 : ∀ a, a < 2 → ∀ b, b < 2 → a ≠ b → (TX1 a).2.1 ≠ (TX1 b).2.1 := by decide +kernel
theorem tyX1_ok : ∀ k, k < 2 → parseFieldDescriptor (TX1 k).2.2.1 = some (tyX1 k) := by decide +kernel
abbrev cX1_init : ByteArray := prog_3_method_1_code
def yX1_init : MethodName := ⟨RX1, "<init>", "()V"⟩
abbrev cX1_cellOfDrive : ByteArray := prog_3_method_2_code
def yX1_cellOfDrive : MethodName := ⟨RX1, "cellOfDrive", "(LSmallestSpeed$Road;II)I"⟩
abbrev cX1_endOfDrive : ByteArray := prog_3_method_3_code
def yX1_endOfDrive : MethodName := ⟨RX1, "endOfDrive", "(LSmallestSpeed$Road;II)I"⟩
abbrev cX1_soonestEnd : ByteArray := prog_3_method_4_code
def yX1_soonestEnd : MethodName := ⟨RX1, "soonestEnd", "(LSmallestSpeed$Road;II)I"⟩
abbrev cX1_bestStart : ByteArray := prog_3_method_5_code
def yX1_bestStart : MethodName := ⟨RX1, "bestStart", "(LSmallestSpeed$Road;I)I"⟩
abbrev cX1_driveBySpeeds : ByteArray := prog_3_method_6_code
def yX1_driveBySpeeds : MethodName := ⟨RX1, "driveBySpeeds", "(LSmallestSpeed$Road;II)I"⟩
abbrev cX1_bestToBed : ByteArray := prog_3_method_7_code
def yX1_bestToBed : MethodName := ⟨RX1, "bestToBed", "(LSmallestSpeed$Road;II)I"⟩
abbrev cX1_bestMove : ByteArray := prog_3_method_8_code
def yX1_bestMove : MethodName := ⟨RX1, "bestMove", "(LSmallestSpeed$Road;I)I"⟩
abbrev cX1_restingPairs : ByteArray := prog_3_method_9_code
def yX1_restingPairs : MethodName := ⟨RX1, "restingPairs", "(LSmallestSpeed$Road;II)I"⟩
abbrev cX1_isBestAgainst : ByteArray := prog_3_method_10_code
def yX1_isBestAgainst : MethodName := ⟨RX1, "isBestAgainst", "(II)Z"⟩
abbrev cX1_getsAgainst : ByteArray := prog_3_method_11_code
def yX1_getsAgainst : MethodName := ⟨RX1, "getsAgainst", "(II)I"⟩
abbrev cX1_minutesOfDays : ByteArray := prog_3_method_12_code
def yX1_minutesOfDays : MethodName := ⟨RX1, "minutesOfDays", "(LSmallestSpeed$Road;III)I"⟩
def RX2 : String := "SmallestSpeed$Grows"
def TX2 : u_T := fun k => match k with
  | _ => ("", "", "", false)
def tyX2 : Nat → FieldType := fun k => match k with
  | _ => .int
abbrev wsX20 : List Cond := u_ws RX2 TX2 0
theorem nmX2 : ∀ a, a < 0 → ∀ b, b < 0 → a ≠ b → (TX2 a).2.1 ≠ (TX2 b).2.1 := by decide +kernel
theorem tyX2_ok : ∀ k, k < 0 → parseFieldDescriptor (TX2 k).2.2.1 = some (tyX2 k) := by decide +kernel
abbrev cX2_init : ByteArray := prog_4_method_1_code
def yX2_init : MethodName := ⟨RX2, "<init>", "()V"⟩
abbrev cX2_highIn : ByteArray := prog_4_method_2_code
def yX2_highIn : MethodName := ⟨RX2, "highIn", "(II)I"⟩
def RX3 : String := "SmallestSpeed$Held"
def TX3 : u_T := fun k => match k with
  | _ => ("", "", "", false)
def tyX3 : Nat → FieldType := fun k => match k with
  | _ => .int
abbrev wsX30 : List Cond := u_ws RX3 TX3 0
theorem nmX3 : ∀ a, a < 0 → ∀ b, b < 0 → a ≠ b → (TX3 a).2.1 ≠ (TX3 b).2.1 := by decide +kernel
theorem tyX3_ok : ∀ k, k < 0 → parseFieldDescriptor (TX3 k).2.2.1 = some (tyX3 k) := by decide +kernel
abbrev cX3_init : ByteArray := prog_5_method_1_code
def yX3_init : MethodName := ⟨RX3, "<init>", "()V"⟩
abbrev cX3_highIn : ByteArray := prog_5_method_2_code
def yX3_highIn : MethodName := ⟨RX3, "highIn", "(II)I"⟩
def RX4 : String := "SmallestSpeed$Limits"
def TX4 : u_T := fun k => match k with
  | 0 => ("SmallestSpeed$Limits", "walker", "LSmallestSpeed$Walker;", true)
  | 1 => ("SmallestSpeed$Limits", "held", "LSmallestSpeed$Walker;", true)
  | 2 => ("SmallestSpeed$Limits", "player", "LSmallestSpeed$Walker;", true)
  | 3 => ("SmallestSpeed$Limits", "twin", "LSmallestSpeed$Walker;", true)
  | 4 => ("SmallestSpeed$Limits", "grows", "LSmallestSpeed$Walker;", true)
  | 5 => ("SmallestSpeed$Limits", "doll", "LSmallestSpeed$Walker;", true)
  | 6 => ("SmallestSpeed$Limits", "cells", "[I", true)
  | _ => ("SmallestSpeed$Limits", "highs", "[I", true)
def tyX4 : Nat → FieldType := fun k => match k with
  | 0 => .object "SmallestSpeed$Walker"
  | 1 => .object "SmallestSpeed$Walker"
  | 2 => .object "SmallestSpeed$Walker"
  | 3 => .object "SmallestSpeed$Walker"
  | 4 => .object "SmallestSpeed$Walker"
  | 5 => .object "SmallestSpeed$Walker"
  | 6 => .array .int
  | _ => .array .int
abbrev wsX40 : List Cond := u_ws RX4 TX4 8
theorem nmX4 : ∀ a, a < 8 → ∀ b, b < 8 → a ≠ b → (TX4 a).2.1 ≠ (TX4 b).2.1 := by decide +kernel
theorem tyX4_ok : ∀ k, k < 8 → parseFieldDescriptor (TX4 k).2.2.1 = some (tyX4 k) := by decide +kernel
abbrev cX4_init : ByteArray := prog_6_method_1_code
def yX4_init : MethodName := ⟨RX4, "<init>", "()V"⟩
abbrev cX4_kindOf : ByteArray := prog_6_method_2_code
def yX4_kindOf : MethodName := ⟨RX4, "kindOf", "(I)LSmallestSpeed$Walker;"⟩
abbrev cX4_see : ByteArray := prog_6_method_3_code
def yX4_see : MethodName := ⟨RX4, "see", "(LSmallestSpeed$Road;I)V"⟩
abbrev cX4_limitIn : ByteArray := prog_6_method_4_code
def yX4_limitIn : MethodName := ⟨RX4, "limitIn", "(LSmallestSpeed$Road;II)I"⟩
abbrev cX4_nearestChild : ByteArray := prog_6_method_5_code
def yX4_nearestChild : MethodName := ⟨RX4, "nearestChild", "(LSmallestSpeed$Road;I)I"⟩
abbrev cX4_outBetween : ByteArray := prog_6_method_6_code
def yX4_outBetween : MethodName := ⟨RX4, "outBetween", "(LSmallestSpeed$Road;II)I"⟩
abbrev cX4_nearestBehind : ByteArray := prog_6_method_7_code
def yX4_nearestBehind : MethodName := ⟨RX4, "nearestBehind", "(LSmallestSpeed$Road;III)I"⟩
abbrev cX4_lowestIn : ByteArray := prog_6_method_8_code
def yX4_lowestIn : MethodName := ⟨RX4, "lowestIn", "(LSmallestSpeed$Road;II)I"⟩
abbrev cX4_isSeen : ByteArray := prog_6_method_9_code
def yX4_isSeen : MethodName := ⟨RX4, "isSeen", "(LSmallestSpeed$Road;III)Z"⟩
abbrev cX4_highByRank : ByteArray := prog_6_method_10_code
def yX4_highByRank : MethodName := ⟨RX4, "highByRank", "(I)I"⟩
def RX5 : String := "SmallestSpeed$Player"
def TX5 : u_T := fun k => match k with
  | _ => ("", "", "", false)
def tyX5 : Nat → FieldType := fun k => match k with
  | _ => .int
abbrev wsX50 : List Cond := u_ws RX5 TX5 0
theorem nmX5 : ∀ a, a < 0 → ∀ b, b < 0 → a ≠ b → (TX5 a).2.1 ≠ (TX5 b).2.1 := by decide +kernel
theorem tyX5_ok : ∀ k, k < 0 → parseFieldDescriptor (TX5 k).2.2.1 = some (tyX5 k) := by decide +kernel
abbrev cX5_init : ByteArray := prog_7_method_1_code
def yX5_init : MethodName := ⟨RX5, "<init>", "()V"⟩
abbrev cX5_cellIn : ByteArray := prog_7_method_2_code
def yX5_cellIn : MethodName := ⟨RX5, "cellIn", "(III)I"⟩
def RX6 : String := "SmallestSpeed$Road"
def TX6 : u_T := fun k => match k with
  | 0 => ("SmallestSpeed$Road", "sight", "I", false)
  | 1 => ("SmallestSpeed$Road", "law", "I", false)
  | 2 => ("SmallestSpeed$Road", "children", "I", false)
  | 3 => ("SmallestSpeed$Road", "kind", "[I", true)
  | 4 => ("SmallestSpeed$Road", "height", "[I", true)
  | 5 => ("SmallestSpeed$Road", "cell", "[I", true)
  | 6 => ("SmallestSpeed$Road", "steps", "[I", true)
  | 7 => ("SmallestSpeed$Road", "bed", "[I", true)
  | 8 => ("SmallestSpeed$Road", "speeds", "I", false)
  | 9 => ("SmallestSpeed$Road", "speed", "[I", true)
  | 10 => ("SmallestSpeed$Road", "readings", "I", false)
  | 11 => ("SmallestSpeed$Road", "readCell", "[I", true)
  | 12 => ("SmallestSpeed$Road", "readMinute", "[I", true)
  | 13 => ("SmallestSpeed$Road", "readLimit", "[I", true)
  | 14 => ("SmallestSpeed$Road", "undos", "I", false)
  | 15 => ("SmallestSpeed$Road", "undoChild", "[I", true)
  | 16 => ("SmallestSpeed$Road", "undoBed", "[Z", true)
  | _ => ("SmallestSpeed$Road", "undoWas", "[I", true)
def tyX6 : Nat → FieldType := fun k => match k with
  | 0 => .int
  | 1 => .int
  | 2 => .int
  | 3 => .array .int
  | 4 => .array .int
  | 5 => .array .int
  | 6 => .array .int
  | 7 => .array .int
  | 8 => .int
  | 9 => .array .int
  | 10 => .int
  | 11 => .array .int
  | 12 => .array .int
  | 13 => .array .int
  | 14 => .int
  | 15 => .array .int
  | 16 => .array .boolean
  | _ => .array .int
abbrev wsX60 : List Cond := u_ws RX6 TX6 18
theorem nmX6 : ∀ a, a < 18 → ∀ b, b < 18 → a ≠ b → (TX6 a).2.1 ≠ (TX6 b).2.1 := by decide +kernel
theorem tyX6_ok : ∀ k, k < 18 → parseFieldDescriptor (TX6 k).2.2.1 = some (tyX6 k) := by decide +kernel
abbrev cX6_init : ByteArray := prog_8_method_1_code
def yX6_init : MethodName := ⟨RX6, "<init>", "()V"⟩
abbrev cX6_begin : ByteArray := prog_8_method_2_code
def yX6_begin : MethodName := ⟨RX6, "begin", "(II)V"⟩
abbrev cX6_addChild : ByteArray := prog_8_method_3_code
def yX6_addChild : MethodName := ⟨RX6, "addChild", "(IIIII)V"⟩
abbrev cX6_addSpeed : ByteArray := prog_8_method_4_code
def yX6_addSpeed : MethodName := ⟨RX6, "addSpeed", "(I)V"⟩
abbrev cX6_addReading : ByteArray := prog_8_method_5_code
def yX6_addReading : MethodName := ⟨RX6, "addReading", "(III)V"⟩
abbrev cX6_keepForUndo : ByteArray := prog_8_method_6_code
def yX6_keepForUndo : MethodName := ⟨RX6, "keepForUndo", "(IZI)V"⟩
abbrev cX6_undoLast : ByteArray := prog_8_method_7_code
def yX6_undoLast : MethodName := ⟨RX6, "undoLast", "()V"⟩
abbrev cX6_copyFrom : ByteArray := prog_8_method_8_code
def yX6_copyFrom : MethodName := ⟨RX6, "copyFrom", "(LSmallestSpeed$Road;)V"⟩
abbrev cX6_everyChild : ByteArray := prog_8_method_9_code
def yX6_everyChild : MethodName := ⟨RX6, "everyChild", "()I"⟩
abbrev cX6_digestOn : ByteArray := prog_8_method_10_code
def yX6_digestOn : MethodName := ⟨RX6, "digestOn", "(J)J"⟩
def RX7 : String := "SmallestSpeed$RoadText"
def TX7 : u_T := fun k => match k with
  | 0 => ("SmallestSpeed$RoadText", "bytes", "[I", true)
  | 1 => ("SmallestSpeed$RoadText", "length", "I", false)
  | _ => ("SmallestSpeed$RoadText", "place", "I", false)
def tyX7 : Nat → FieldType := fun k => match k with
  | 0 => .array .int
  | 1 => .int
  | _ => .int
abbrev wsX70 : List Cond := u_ws RX7 TX7 3
theorem nmX7 : ∀ a, a < 3 → ∀ b, b < 3 → a ≠ b → (TX7 a).2.1 ≠ (TX7 b).2.1 := by decide +kernel
theorem tyX7_ok : ∀ k, k < 3 → parseFieldDescriptor (TX7 k).2.2.1 = some (tyX7 k) := by decide +kernel
abbrev cX7_init : ByteArray := prog_9_method_1_code
def yX7_init : MethodName := ⟨RX7, "<init>", "()V"⟩
abbrev cX7_append : ByteArray := prog_9_method_2_code
def yX7_append : MethodName := ⟨RX7, "append", "(I)V"⟩
abbrev cX7_readInto : ByteArray := prog_9_method_3_code
def yX7_readInto : MethodName := ⟨RX7, "readInto", "(LSmallestSpeed$Road;)I"⟩
abbrev cX7_readRoadItem : ByteArray := prog_9_method_4_code
def yX7_readRoadItem : MethodName := ⟨RX7, "readRoadItem", "(LSmallestSpeed$Road;)Z"⟩
abbrev cX7_readChildItem : ByteArray := prog_9_method_5_code
def yX7_readChildItem : MethodName := ⟨RX7, "readChildItem", "(LSmallestSpeed$Road;)Z"⟩
abbrev cX7_isAtEnd : ByteArray := prog_9_method_6_code
def yX7_isAtEnd : MethodName := ⟨RX7, "isAtEnd", "()Z"⟩
abbrev cX7_readWord : ByteArray := prog_9_method_7_code
def yX7_readWord : MethodName := ⟨RX7, "readWord", "(Ljava/lang/String;)Z"⟩
abbrev cX7_readNumber : ByteArray := prog_9_method_8_code
def yX7_readNumber : MethodName := ⟨RX7, "readNumber", "(II)I"⟩
abbrev cX7_readSemicolon : ByteArray := prog_9_method_9_code
def yX7_readSemicolon : MethodName := ⟨RX7, "readSemicolon", "()Z"⟩
abbrev cX7_endOfRun : ByteArray := prog_9_method_10_code
def yX7_endOfRun : MethodName := ⟨RX7, "endOfRun", "(II)I"⟩
def RX8 : String := "SmallestSpeed$Sightings"
def TX8 : u_T := fun k => match k with
  | 0 => ("SmallestSpeed$Sightings", "limits", "LSmallestSpeed$Limits;", true)
  | _ => ("SmallestSpeed$Sightings", "alike", "[I", true)
def tyX8 : Nat → FieldType := fun k => match k with
  | 0 => .object "SmallestSpeed$Limits"
  | _ => .array .int
abbrev wsX80 : List Cond := u_ws RX8 TX8 2
theorem nmX8 : ∀ a, a < 2 → ∀ b, b < 2 → a ≠ b → (TX8 a).2.1 ≠ (TX8 b).2.1 := by decide +kernel
theorem tyX8_ok : ∀ k, k < 2 → parseFieldDescriptor (TX8 k).2.2.1 = some (tyX8 k) := by decide +kernel
abbrev cX8_init : ByteArray := prog_10_method_1_code
def yX8_init : MethodName := ⟨RX8, "<init>", "()V"⟩
abbrev cX8_isAsRead : ByteArray := prog_10_method_2_code
def yX8_isAsRead : MethodName := ⟨RX8, "isAsRead", "(LSmallestSpeed$Road;I)Z"⟩
abbrev cX8_fittingSets : ByteArray := prog_10_method_3_code
def yX8_fittingSets : MethodName := ⟨RX8, "fittingSets", "(LSmallestSpeed$Road;)J"⟩
abbrev cX8_inAllSets : ByteArray := prog_10_method_4_code
def yX8_inAllSets : MethodName := ⟨RX8, "inAllSets", "(LSmallestSpeed$Road;J)I"⟩
abbrev cX8_bestCell : ByteArray := prog_10_method_5_code
def yX8_bestCell : MethodName := ⟨RX8, "bestCell", "(LSmallestSpeed$Road;JI)I"⟩
abbrev cX8_mostAlike : ByteArray := prog_10_method_6_code
def yX8_mostAlike : MethodName := ⟨RX8, "mostAlike", "(LSmallestSpeed$Road;JI)I"⟩
abbrev cX8_possibleDolls : ByteArray := prog_10_method_7_code
def yX8_possibleDolls : MethodName := ⟨RX8, "possibleDolls", "(LSmallestSpeed$Road;)I"⟩
def RX9 : String := "SmallestSpeed$Twin"
def TX9 : u_T := fun k => match k with
  | _ => ("", "", "", false)
def tyX9 : Nat → FieldType := fun k => match k with
  | _ => .int
abbrev wsX90 : List Cond := u_ws RX9 TX9 0
theorem nmX9 : ∀ a, a < 0 → ∀ b, b < 0 → a ≠ b → (TX9 a).2.1 ≠ (TX9 b).2.1 := by decide +kernel
theorem tyX9_ok : ∀ k, k < 0 → parseFieldDescriptor (TX9 k).2.2.1 = some (tyX9 k) := by decide +kernel
abbrev cX9_init : ByteArray := prog_11_method_1_code
def yX9_init : MethodName := ⟨RX9, "<init>", "()V"⟩
abbrev cX9_highIn : ByteArray := prog_11_method_2_code
def yX9_highIn : MethodName := ⟨RX9, "highIn", "(II)I"⟩
def RX10 : String := "SmallestSpeed$Walker"
def TX10 : u_T := fun k => match k with
  | _ => ("", "", "", false)
def tyX10 : Nat → FieldType := fun k => match k with
  | _ => .int
abbrev wsX100 : List Cond := u_ws RX10 TX10 0
theorem nmX10 : ∀ a, a < 0 → ∀ b, b < 0 → a ≠ b → (TX10 a).2.1 ≠ (TX10 b).2.1 := by decide +kernel
theorem tyX10_ok : ∀ k, k < 0 → parseFieldDescriptor (TX10 k).2.2.1 = some (tyX10 k) := by decide +kernel
abbrev cX10_init : ByteArray := prog_12_method_1_code
def yX10_init : MethodName := ⟨RX10, "<init>", "()V"⟩
abbrev cX10_cellIn : ByteArray := prog_12_method_2_code
def yX10_cellIn : MethodName := ⟨RX10, "cellIn", "(III)I"⟩
abbrev cX10_highIn : ByteArray := prog_12_method_3_code
def yX10_highIn : MethodName := ⟨RX10, "highIn", "(II)I"⟩
def RX11 : String := "SmallestSpeed"
def TX11 : u_T := fun k => match k with
  | 0 => ("SmallestSpeed", "now", "LSmallestSpeed$Road;", true)
  | 1 => ("SmallestSpeed", "trial", "LSmallestSpeed$Road;", true)
  | 2 => ("SmallestSpeed", "image0", "LSmallestSpeed$Road;", true)
  | 3 => ("SmallestSpeed", "image1", "LSmallestSpeed$Road;", true)
  | 4 => ("SmallestSpeed", "kept0", "Z", false)
  | 5 => ("SmallestSpeed", "kept1", "Z", false)
  | 6 => ("SmallestSpeed", "text", "LSmallestSpeed$RoadText;", true)
  | 7 => ("SmallestSpeed", "limits", "LSmallestSpeed$Limits;", true)
  | 8 => ("SmallestSpeed", "drives", "LSmallestSpeed$Drives;", true)
  | 9 => ("SmallestSpeed", "sightings", "LSmallestSpeed$Sightings;", true)
  | 10 => ("SmallestSpeed", "above", "I", false)
  | 11 => ("SmallestSpeed", "below", "I", false)
  | 12 => ("SmallestSpeed", "refusedBad", "I", false)
  | 13 => ("SmallestSpeed", "refusedNo", "I", false)
  | _ => ("SmallestSpeed", "refusedFull", "I", false)
def tyX11 : Nat → FieldType := fun k => match k with
  | 0 => .object "SmallestSpeed$Road"
  | 1 => .object "SmallestSpeed$Road"
  | 2 => .object "SmallestSpeed$Road"
  | 3 => .object "SmallestSpeed$Road"
  | 4 => .boolean
  | 5 => .boolean
  | 6 => .object "SmallestSpeed$RoadText"
  | 7 => .object "SmallestSpeed$Limits"
  | 8 => .object "SmallestSpeed$Drives"
  | 9 => .object "SmallestSpeed$Sightings"
  | 10 => .int
  | 11 => .int
  | 12 => .int
  | 13 => .int
  | _ => .int
abbrev wsX110 : List Cond := u_ws RX11 TX11 15
theorem nmX11 : ∀ a, a < 15 → ∀ b, b < 15 → a ≠ b → (TX11 a).2.1 ≠ (TX11 b).2.1 := by decide +kernel
theorem tyX11_ok : ∀ k, k < 15 → parseFieldDescriptor (TX11 k).2.2.1 = some (tyX11 k) := by decide +kernel
abbrev cX11_init : ByteArray := prog_1_method_1_code
def yX11_init : MethodName := ⟨RX11, "<init>", "()V"⟩
abbrev cX11_road : ByteArray := prog_1_method_2_code
def yX11_road : MethodName := ⟨RX11, "road", "(II)I"⟩
abbrev cX11_rule : ByteArray := prog_1_method_3_code
def yX11_rule : MethodName := ⟨RX11, "rule", "(I)I"⟩
abbrev cX11_sight : ByteArray := prog_1_method_4_code
def yX11_sight : MethodName := ⟨RX11, "sight", "(I)I"⟩
abbrev cX11_child : ByteArray := prog_1_method_5_code
def yX11_child : MethodName := ⟨RX11, "child", "(IIIII)I"⟩
abbrev cX11_stand : ByteArray := prog_1_method_6_code
def yX11_stand : MethodName := ⟨RX11, "stand", "(II)I"⟩
abbrev cX11_bed : ByteArray := prog_1_method_7_code
def yX11_bed : MethodName := ⟨RX11, "bed", "(II)I"⟩
abbrev cX11_undo : ByteArray := prog_1_method_8_code
def yX11_undo : MethodName := ⟨RX11, "undo", "()I"⟩
abbrev cX11_type : ByteArray := prog_1_method_9_code
def yX11_type : MethodName := ⟨RX11, "type", "(I)I"⟩
abbrev cX11_clear : ByteArray := prog_1_method_10_code
def yX11_clear : MethodName := ⟨RX11, "clear", "()I"⟩
abbrev cX11_read : ByteArray := prog_1_method_11_code
def yX11_read : MethodName := ⟨RX11, "read", "()I"⟩
abbrev cX11_of : ByteArray := prog_1_method_12_code
def yX11_of : MethodName := ⟨RX11, "of", "(III)I"⟩
abbrev cX11_limit : ByteArray := prog_1_method_13_code
def yX11_limit : MethodName := ⟨RX11, "limit", "(III)I"⟩
abbrev cX11_where : ByteArray := prog_1_method_14_code
def yX11_where : MethodName := ⟨RX11, "where", "(II)I"⟩
abbrev cX11_there : ByteArray := prog_1_method_15_code
def yX11_there : MethodName := ⟨RX11, "there", "(I)I"⟩
abbrev cX11_soonest : ByteArray := prog_1_method_16_code
def yX11_soonest : MethodName := ⟨RX11, "soonest", "(I)I"⟩
abbrev cX11_start : ByteArray := prog_1_method_17_code
def yX11_start : MethodName := ⟨RX11, "start", "(I)I"⟩
abbrev cX11_speed : ByteArray := prog_1_method_18_code
def yX11_speed : MethodName := ⟨RX11, "speed", "(I)I"⟩
abbrev cX11_stop : ByteArray := prog_1_method_19_code
def yX11_stop : MethodName := ⟨RX11, "stop", "()I"⟩
abbrev cX11_fined : ByteArray := prog_1_method_20_code
def yX11_fined : MethodName := ⟨RX11, "fined", "(II)I"⟩
abbrev cX11_toBed : ByteArray := prog_1_method_21_code
def yX11_toBed : MethodName := ⟨RX11, "toBed", "(III)I"⟩
abbrev cX11_move : ByteArray := prog_1_method_22_code
def yX11_move : MethodName := ⟨RX11, "move", "(I)I"⟩
abbrev cX11_carters : ByteArray := prog_1_method_23_code
def yX11_carters : MethodName := ⟨RX11, "carters", "(II)I"⟩
abbrev cX11_reading : ByteArray := prog_1_method_24_code
def yX11_reading : MethodName := ⟨RX11, "reading", "(III)I"⟩
abbrev cX11_forget : ByteArray := prog_1_method_25_code
def yX11_forget : MethodName := ⟨RX11, "forget", "()I"⟩
abbrev cX11_out : ByteArray := prog_1_method_26_code
def yX11_out : MethodName := ⟨RX11, "out", "(I)I"⟩
abbrev cX11_look : ByteArray := prog_1_method_27_code
def yX11_look : MethodName := ⟨RX11, "look", "(I)I"⟩
abbrev cX11_dolls : ByteArray := prog_1_method_28_code
def yX11_dolls : MethodName := ⟨RX11, "dolls", "()I"⟩
abbrev cX11_days : ByteArray := prog_1_method_29_code
def yX11_days : MethodName := ⟨RX11, "days", "(III)I"⟩
abbrev cX11_part : ByteArray := prog_1_method_30_code
def yX11_part : MethodName := ⟨RX11, "part", "(I)J"⟩
abbrev cX11_image : ByteArray := prog_1_method_31_code
def yX11_image : MethodName := ⟨RX11, "image", "(I)I"⟩
abbrev cX11_from : ByteArray := prog_1_method_32_code
def yX11_from : MethodName := ⟨RX11, "from", "(I)I"⟩
abbrev cX11_status : ByteArray := prog_1_method_33_code
def yX11_status : MethodName := ⟨RX11, "status", "(I)I"⟩
abbrev cX11_count : ByteArray := prog_1_method_34_code
def yX11_count : MethodName := ⟨RX11, "count", "(I)I"⟩
abbrev cX11_digest : ByteArray := prog_1_method_35_code
def yX11_digest : MethodName := ⟨RX11, "digest", "()J"⟩
abbrev cX11_countOf : ByteArray := prog_1_method_36_code
def yX11_countOf : MethodName := ⟨RX11, "countOf", "(I)I"⟩
abbrev cX11_keepFraction : ByteArray := prog_1_method_37_code
def yX11_keepFraction : MethodName := ⟨RX11, "keepFraction", "(II)V"⟩
abbrev cX11_refuseBad : ByteArray := prog_1_method_38_code
def yX11_refuseBad : MethodName := ⟨RX11, "refuseBad", "(I)I"⟩
abbrev cX11_refuseNo : ByteArray := prog_1_method_39_code
def yX11_refuseNo : MethodName := ⟨RX11, "refuseNo", "()I"⟩
abbrev cX11_refuseFull : ByteArray := prog_1_method_40_code
def yX11_refuseFull : MethodName := ⟨RX11, "refuseFull", "()I"⟩
abbrev cX11_isChild : ByteArray := prog_1_method_41_code
def yX11_isChild : MethodName := ⟨RX11, "isChild", "(I)Z"⟩
abbrev cX11_isCell : ByteArray := prog_1_method_42_code
def yX11_isCell : MethodName := ⟨RX11, "isCell", "(I)Z"⟩
abbrev cX11_isMinute : ByteArray := prog_1_method_43_code
def yX11_isMinute : MethodName := ⟨RX11, "isMinute", "(I)Z"⟩
abbrev cX11_isZeroOrOne : ByteArray := prog_1_method_44_code
def yX11_isZeroOrOne : MethodName := ⟨RX11, "isZeroOrOne", "(I)Z"⟩
abbrev cX11_within : ByteArray := prog_1_method_45_code
def yX11_within : MethodName := ⟨RX11, "within", "(III)Z"⟩
abbrev cX11_noneIfNever : ByteArray := prog_1_method_46_code
def yX11_noneIfNever : MethodName := ⟨RX11, "noneIfNever", "(I)I"⟩
def RX12 : String := "SmallestSpeedModel"
def TX12 : u_T := fun k => match k with
  | 0 => ("SmallestSpeedModel", "now", "[I", true)
  | 1 => ("SmallestSpeedModel", "kept", "[I", true)
  | 2 => ("SmallestSpeedModel", "isKept", "[Z", true)
  | 3 => ("SmallestSpeedModel", "refused", "[I", true)
  | 4 => ("SmallestSpeedModel", "above", "J", false)
  | 5 => ("SmallestSpeedModel", "below", "J", false)
  | 6 => ("SmallestSpeedModel", "kinds", "[I", true)
  | 7 => ("SmallestSpeedModel", "cells", "[I", true)
  | 8 => ("SmallestSpeedModel", "present", "I", false)
  | 9 => ("SmallestSpeedModel", "canBe", "[Z", true)
  | 10 => ("SmallestSpeedModel", "canBeThen", "[Z", true)
  | 11 => ("SmallestSpeedModel", "gets", "[I", true)
  | 12 => ("SmallestSpeedModel", "fits", "[Z", true)
  | 13 => ("SmallestSpeedModel", "manyLike", "[I", true)
  | 14 => ("SmallestSpeedModel", "bytes", "[I", true)
  | 15 => ("SmallestSpeedModel", "bytesLong", "I", false)
  | 16 => ("SmallestSpeedModel", "tokenAt", "I", false)
  | 17 => ("SmallestSpeedModel", "tokenLong", "I", false)
  | 18 => ("SmallestSpeedModel", "token", "I", false)
  | 19 => ("SmallestSpeedModel", "value", "I", false)
  | 20 => ("SmallestSpeedModel", "anew", "[I", true)
  | _ => ("SmallestSpeedModel", "values", "[I", true)
def tyX12 : Nat → FieldType := fun k => match k with
  | 0 => .array .int
  | 1 => .array .int
  | 2 => .array .boolean
  | 3 => .array .int
  | 4 => .long
  | 5 => .long
  | 6 => .array .int
  | 7 => .array .int
  | 8 => .int
  | 9 => .array .boolean
  | 10 => .array .boolean
  | 11 => .array .int
  | 12 => .array .boolean
  | 13 => .array .int
  | 14 => .array .int
  | 15 => .int
  | 16 => .int
  | 17 => .int
  | 18 => .int
  | 19 => .int
  | 20 => .array .int
  | _ => .array .int
abbrev wsX120 : List Cond := u_ws RX12 TX12 22
theorem nmX12 : ∀ a, a < 22 → ∀ b, b < 22 → a ≠ b → (TX12 a).2.1 ≠ (TX12 b).2.1 := by decide +kernel
theorem tyX12_ok : ∀ k, k < 22 → parseFieldDescriptor (TX12 k).2.2.1 = some (tyX12 k) := by decide +kernel
abbrev cX12_init : ByteArray := prog_14_method_1_code
def yX12_init : MethodName := ⟨RX12, "<init>", "()V"⟩
abbrev cX12_in : ByteArray := prog_14_method_3_code
def yX12_in : MethodName := ⟨RX12, "in", "(JJJ)Z"⟩
abbrev cX12_bad : ByteArray := prog_14_method_4_code
def yX12_bad : MethodName := ⟨RX12, "bad", "(I)I"⟩
abbrev cX12_no : ByteArray := prog_14_method_5_code
def yX12_no : MethodName := ⟨RX12, "no", "()I"⟩
abbrev cX12_full : ByteArray := prog_14_method_6_code
def yX12_full : MethodName := ⟨RX12, "full", "()I"⟩
abbrev cX12_bits : ByteArray := prog_14_method_7_code
def yX12_bits : MethodName := ⟨RX12, "bits", "(I)I"⟩
abbrev cX12_begin : ByteArray := prog_14_method_8_code
def yX12_begin : MethodName := ⟨RX12, "begin", "([III)V"⟩
abbrev cX12_children : ByteArray := prog_14_method_9_code
def yX12_children : MethodName := ⟨RX12, "children", "()I"⟩
abbrev cX12_isChild : ByteArray := prog_14_method_10_code
def yX12_isChild : MethodName := ⟨RX12, "isChild", "(I)Z"⟩
abbrev cX12_isCell : ByteArray := prog_14_method_11_code
def yX12_isCell : MethodName := ⟨RX12, "isCell", "(I)Z"⟩
abbrev cX12_isMinute : ByteArray := prog_14_method_12_code
def yX12_isMinute : MethodName := ⟨RX12, "isMinute", "(I)Z"⟩
abbrev cX12_get : ByteArray := prog_14_method_13_code
def yX12_get : MethodName := ⟨RX12, "get", "(II)I"⟩
abbrev cX12_all : ByteArray := prog_14_method_14_code
def yX12_all : MethodName := ⟨RX12, "all", "()I"⟩
abbrev cX12_road : ByteArray := prog_14_method_15_code
def yX12_road : MethodName := ⟨RX12, "road", "(II)I"⟩
abbrev cX12_rule : ByteArray := prog_14_method_16_code
def yX12_rule : MethodName := ⟨RX12, "rule", "(I)I"⟩
abbrev cX12_sight : ByteArray := prog_14_method_17_code
def yX12_sight : MethodName := ⟨RX12, "sight", "(I)I"⟩
abbrev cX12_layChild : ByteArray := prog_14_method_18_code
def yX12_layChild : MethodName := ⟨RX12, "layChild", "([IIIIII)V"⟩
abbrev cX12_child : ByteArray := prog_14_method_19_code
def yX12_child : MethodName := ⟨RX12, "child", "(IIIII)I"⟩
abbrev cX12_keep : ByteArray := prog_14_method_20_code
def yX12_keep : MethodName := ⟨RX12, "keep", "()V"⟩
abbrev cX12_tellAnew : ByteArray := prog_14_method_21_code
def yX12_tellAnew : MethodName := ⟨RX12, "tellAnew", "(III)I"⟩
abbrev cX12_stand : ByteArray := prog_14_method_22_code
def yX12_stand : MethodName := ⟨RX12, "stand", "(II)I"⟩
abbrev cX12_bed : ByteArray := prog_14_method_23_code
def yX12_bed : MethodName := ⟨RX12, "bed", "(II)I"⟩
abbrev cX12_undo : ByteArray := prog_14_method_24_code
def yX12_undo : MethodName := ⟨RX12, "undo", "()I"⟩
abbrev cX12_layHand : ByteArray := prog_14_method_25_code
def yX12_layHand : MethodName := ⟨RX12, "layHand", "(I)V"⟩
abbrev cX12_cellOf : ByteArray := prog_14_method_26_code
def yX12_cellOf : MethodName := ⟨RX12, "cellOf", "(II)I"⟩
abbrev cX12_least : ByteArray := prog_14_method_27_code
def yX12_least : MethodName := ⟨RX12, "least", "(II)I"⟩
abbrev cX12_most : ByteArray := prog_14_method_28_code
def yX12_most : MethodName := ⟨RX12, "most", "(II)I"⟩
abbrev cX12_countsOf : ByteArray := prog_14_method_29_code
def yX12_countsOf : MethodName := ⟨RX12, "countsOf", "(II)I"⟩
abbrev cX12_isOut : ByteArray := prog_14_method_30_code
def yX12_isOut : MethodName := ⟨RX12, "isOut", "(II)Z"⟩
abbrev cX12_apart : ByteArray := prog_14_method_31_code
def yX12_apart : MethodName := ⟨RX12, "apart", "(II)I"⟩
abbrev cX12_isSeen : ByteArray := prog_14_method_32_code
def yX12_isSeen : MethodName := ⟨RX12, "isSeen", "(III)Z"⟩
abbrev cX12_nearest : ByteArray := prog_14_method_33_code
def yX12_nearest : MethodName := ⟨RX12, "nearest", "(III)I"⟩
abbrev cX12_lowest : ByteArray := prog_14_method_34_code
def yX12_lowest : MethodName := ⟨RX12, "lowest", "(II)I"⟩
abbrev cX12_limitAt : ByteArray := prog_14_method_35_code
def yX12_limitAt : MethodName := ⟨RX12, "limitAt", "(II)I"⟩
abbrev cX12_of : ByteArray := prog_14_method_36_code
def yX12_of : MethodName := ⟨RX12, "of", "(III)I"⟩
abbrev cX12_limit : ByteArray := prog_14_method_37_code
def yX12_limit : MethodName := ⟨RX12, "limit", "(III)I"⟩
abbrev cX12_whereAt : ByteArray := prog_14_method_38_code
def yX12_whereAt : MethodName := ⟨RX12, "whereAt", "(II)I"⟩
abbrev cX12_thereFrom : ByteArray := prog_14_method_39_code
def yX12_thereFrom : MethodName := ⟨RX12, "thereFrom", "(I)I"⟩
abbrev cX12_orNone : ByteArray := prog_14_method_40_code
def yX12_orNone : MethodName := ⟨RX12, "orNone", "(I)I"⟩
abbrev cX12_where : ByteArray := prog_14_method_41_code
def yX12_where : MethodName := ⟨RX12, "where", "(II)I"⟩
abbrev cX12_there : ByteArray := prog_14_method_42_code
def yX12_there : MethodName := ⟨RX12, "there", "(I)I"⟩
abbrev cX12_goOn : ByteArray := prog_14_method_43_code
def yX12_goOn : MethodName := ⟨RX12, "goOn", "(I)V"⟩
abbrev cX12_soonestFrom : ByteArray := prog_14_method_44_code
def yX12_soonestFrom : MethodName := ⟨RX12, "soonestFrom", "(I)I"⟩
abbrev cX12_soonest : ByteArray := prog_14_method_45_code
def yX12_soonest : MethodName := ⟨RX12, "soonest", "(I)I"⟩
abbrev cX12_start : ByteArray := prog_14_method_46_code
def yX12_start : MethodName := ⟨RX12, "start", "(I)I"⟩
abbrev cX12_speed : ByteArray := prog_14_method_47_code
def yX12_speed : MethodName := ⟨RX12, "speed", "(I)I"⟩
abbrev cX12_stop : ByteArray := prog_14_method_48_code
def yX12_stop : MethodName := ⟨RX12, "stop", "()I"⟩
abbrev cX12_pastIn : ByteArray := prog_14_method_49_code
def yX12_pastIn : MethodName := ⟨RX12, "pastIn", "(III)I"⟩
abbrev cX12_fined : ByteArray := prog_14_method_50_code
def yX12_fined : MethodName := ⟨RX12, "fined", "(II)I"⟩
abbrev cX12_toBed : ByteArray := prog_14_method_51_code
def yX12_toBed : MethodName := ⟨RX12, "toBed", "(III)I"⟩
abbrev cX12_move : ByteArray := prog_14_method_52_code
def yX12_move : MethodName := ⟨RX12, "move", "(I)I"⟩
abbrev cX12_layGets : ByteArray := prog_14_method_53_code
def yX12_layGets : MethodName := ⟨RX12, "layGets", "(I)V"⟩
abbrev cX12_rests : ByteArray := prog_14_method_54_code
def yX12_rests : MethodName := ⟨RX12, "rests", "(II)Z"⟩
abbrev cX12_carters : ByteArray := prog_14_method_55_code
def yX12_carters : MethodName := ⟨RX12, "carters", "(II)I"⟩
abbrev cX12_reading : ByteArray := prog_14_method_56_code
def yX12_reading : MethodName := ⟨RX12, "reading", "(III)I"⟩
abbrev cX12_forget : ByteArray := prog_14_method_57_code
def yX12_forget : MethodName := ⟨RX12, "forget", "()I"⟩
abbrev cX12_areSo : ByteArray := prog_14_method_58_code
def yX12_areSo : MethodName := ⟨RX12, "areSo", "()Z"⟩
abbrev cX12_out : ByteArray := prog_14_method_59_code
def yX12_out : MethodName := ⟨RX12, "out", "(I)I"⟩
abbrev cX12_mostLike : ByteArray := prog_14_method_60_code
def yX12_mostLike : MethodName := ⟨RX12, "mostLike", "(II)I"⟩
abbrev cX12_look : ByteArray := prog_14_method_61_code
def yX12_look : MethodName := ⟨RX12, "look", "(I)I"⟩
abbrev cX12_dolls : ByteArray := prog_14_method_62_code
def yX12_dolls : MethodName := ⟨RX12, "dolls", "()I"⟩
abbrev cX12_fraction : ByteArray := prog_14_method_63_code
def yX12_fraction : MethodName := ⟨RX12, "fraction", "(II)V"⟩
abbrev cX12_days : ByteArray := prog_14_method_64_code
def yX12_days : MethodName := ⟨RX12, "days", "(III)I"⟩
abbrev cX12_type : ByteArray := prog_14_method_65_code
def yX12_type : MethodName := ⟨RX12, "type", "(I)I"⟩
abbrev cX12_clear : ByteArray := prog_14_method_66_code
def yX12_clear : MethodName := ⟨RX12, "clear", "()I"⟩
abbrev cX12_isSmall : ByteArray := prog_14_method_67_code
def yX12_isSmall : MethodName := ⟨RX12, "isSmall", "(I)Z"⟩
abbrev cX12_isFigure : ByteArray := prog_14_method_68_code
def yX12_isFigure : MethodName := ⟨RX12, "isFigure", "(I)Z"⟩
abbrev cX12_lookAt : ByteArray := prog_14_method_69_code
def yX12_lookAt : MethodName := ⟨RX12, "lookAt", "(I)V"⟩
abbrev cX12_goBehind : ByteArray := prog_14_method_70_code
def yX12_goBehind : MethodName := ⟨RX12, "goBehind", "()V"⟩
abbrev cX12_isCalled : ByteArray := prog_14_method_71_code
def yX12_isCalled : MethodName := ⟨RX12, "isCalled", "(IIIIII)Z"⟩
abbrev cX12_takes : ByteArray := prog_14_method_72_code
def yX12_takes : MethodName := ⟨RX12, "takes", "(III)Z"⟩
abbrev cX12_takesFirst : ByteArray := prog_14_method_73_code
def yX12_takesFirst : MethodName := ⟨RX12, "takesFirst", "()Z"⟩
abbrev cX12_takesChild : ByteArray := prog_14_method_74_code
def yX12_takesChild : MethodName := ⟨RX12, "takesChild", "()Z"⟩
abbrev cX12_read : ByteArray := prog_14_method_75_code
def yX12_read : MethodName := ⟨RX12, "read", "()I"⟩
abbrev cX12_part : ByteArray := prog_14_method_76_code
def yX12_part : MethodName := ⟨RX12, "part", "(I)J"⟩
abbrev cX12_image : ByteArray := prog_14_method_77_code
def yX12_image : MethodName := ⟨RX12, "image", "(I)I"⟩
abbrev cX12_from : ByteArray := prog_14_method_78_code
def yX12_from : MethodName := ⟨RX12, "from", "(I)I"⟩
abbrev cX12_status : ByteArray := prog_14_method_79_code
def yX12_status : MethodName := ⟨RX12, "status", "(I)I"⟩
abbrev cX12_counted : ByteArray := prog_14_method_80_code
def yX12_counted : MethodName := ⟨RX12, "counted", "(I)I"⟩
abbrev cX12_count : ByteArray := prog_14_method_81_code
def yX12_count : MethodName := ⟨RX12, "count", "(I)I"⟩
abbrev cX12_sums : ByteArray := prog_14_method_82_code
def yX12_sums : MethodName := ⟨RX12, "sums", "(JII)J"⟩
abbrev cX12_digest : ByteArray := prog_14_method_83_code
def yX12_digest : MethodName := ⟨RX12, "digest", "()J"⟩
def RJ6 : String := "java/lang/Integer"
def TJ6 : u_T := fun k => match k with
  | _ => ("", "", "", false)
def tyJ6 : Nat → FieldType := fun k => match k with
  | _ => .int
abbrev wsJ60 : List Cond := u_ws RJ6 TJ6 0
theorem nmJ6 : ∀ a, a < 0 → ∀ b, b < 0 → a ≠ b → (TJ6 a).2.1 ≠ (TJ6 b).2.1 := by decide +kernel
theorem tyJ6_ok : ∀ k, k < 0 → parseFieldDescriptor (TJ6 k).2.2.1 = some (tyJ6 k) := by decide +kernel
abbrev cJ6_bitCount_0f7a4 : ByteArray := prog_15_method_49_code
def yJ6_bitCount_0f7a4 : MethodName := ⟨RJ6, "bitCount", "(I)I"⟩
def RJ13 : String := "java/lang/Long"
def TJ13 : u_T := fun k => match k with
  | _ => ("", "", "", false)
def tyJ13 : Nat → FieldType := fun k => match k with
  | _ => .int
abbrev wsJ130 : List Cond := u_ws RJ13 TJ13 0
theorem nmJ13 : ∀ a, a < 0 → ∀ b, b < 0 → a ≠ b → (TJ13 a).2.1 ≠ (TJ13 b).2.1 := by decide +kernel
theorem tyJ13_ok : ∀ k, k < 0 → parseFieldDescriptor (TJ13 k).2.2.1 = some (tyJ13 k) := by decide +kernel
abbrev cJ13_bitCount_95d88 : ByteArray := prog_16_method_50_code
def yJ13_bitCount_95d88 : MethodName := ⟨RJ13, "bitCount", "(J)I"⟩
def RJ9 : String := "java/lang/Math"
def TJ9 : u_T := fun k => match k with
  | _ => ("", "", "", false)
def tyJ9 : Nat → FieldType := fun k => match k with
  | _ => .int
abbrev wsJ90 : List Cond := u_ws RJ9 TJ9 0
theorem nmJ9 : ∀ a, a < 0 → ∀ b, b < 0 → a ≠ b → (TJ9 a).2.1 ≠ (TJ9 b).2.1 := by decide +kernel
theorem tyJ9_ok : ∀ k, k < 0 → parseFieldDescriptor (TJ9 k).2.2.1 = some (tyJ9 k) := by decide +kernel
abbrev cJ9_abs_0f7a4 : ByteArray := prog_17_method_59_code
def yJ9_abs_0f7a4 : MethodName := ⟨RJ9, "abs", "(I)I"⟩
abbrev cJ9_max_7cf53 : ByteArray := prog_17_method_65_code
def yJ9_max_7cf53 : MethodName := ⟨RJ9, "max", "(II)I"⟩
abbrev cJ9_min_7cf53 : ByteArray := prog_17_method_69_code
def yJ9_min_7cf53 : MethodName := ⟨RJ9, "min", "(II)I"⟩
def RJ0 : String := "java/lang/String"
def TJ0 : u_T := fun k => match k with
  | _ => ("", "", "", false)
def tyJ0 : Nat → FieldType := fun k => match k with
  | _ => .int
abbrev wsJ00 : List Cond := u_ws RJ0 TJ0 0
theorem nmJ0 : ∀ a, a < 0 → ∀ b, b < 0 → a ≠ b → (TJ0 a).2.1 ≠ (TJ0 b).2.1 := by decide +kernel
theorem tyJ0_ok : ∀ k, k < 0 → parseFieldDescriptor (TJ0 k).2.2.1 = some (tyJ0 k) := by decide +kernel
abbrev cJ0_length_8abf5 : ByteArray := prog_18_method_54_code
def yJ0_length_8abf5 : MethodName := ⟨RJ0, "length", "()I"⟩
abbrev cJ0_charAt_5068e : ByteArray := prog_18_method_56_code
def yJ0_charAt_5068e : MethodName := ⟨RJ0, "charAt", "(I)C"⟩
abbrev cJ0_coder_7d493 : ByteArray := prog_18_method_152_code
def yJ0_coder_7d493 : MethodName := ⟨RJ0, "coder", "()B"⟩
abbrev cJ0_isLatin1_aae02 : ByteArray := prog_18_method_154_code
def yJ0_isLatin1_aae02 : MethodName := ⟨RJ0, "isLatin1", "()Z"⟩
abbrev cJ0_checkIndex_df160 : ByteArray := prog_18_method_155_code
def yJ0_checkIndex_df160 : MethodName := ⟨RJ0, "checkIndex", "(II)V"⟩
def RJ1 : String := "java/lang/StringLatin1"
def TJ1 : u_T := fun k => match k with
  | _ => ("", "", "", false)
def tyJ1 : Nat → FieldType := fun k => match k with
  | _ => .int
abbrev wsJ10 : List Cond := u_ws RJ1 TJ1 0
theorem nmJ1 : ∀ a, a < 0 → ∀ b, b < 0 → a ≠ b → (TJ1 a).2.1 ≠ (TJ1 b).2.1 := by decide +kernel
theorem tyJ1_ok : ∀ k, k < 0 → parseFieldDescriptor (TJ1 k).2.2.1 = some (tyJ1 k) := by decide +kernel
abbrev cJ1_charAt_3b067 : ByteArray := prog_19_method_2_code
def yJ1_charAt_3b067 : MethodName := ⟨RJ1, "charAt", "([BI)C"⟩
def RJ2 : String := "java/lang/StringUTF16"
def TJ2 : u_T := fun k => match k with
  | _ => ("", "", "", false)
def tyJ2 : Nat → FieldType := fun k => match k with
  | _ => .int
abbrev wsJ20 : List Cond := u_ws RJ2 TJ2 0
theorem nmJ2 : ∀ a, a < 0 → ∀ b, b < 0 → a ≠ b → (TJ2 a).2.1 ≠ (TJ2 b).2.1 := by decide +kernel
theorem tyJ2_ok : ∀ k, k < 0 → parseFieldDescriptor (TJ2 k).2.2.1 = some (tyJ2 k) := by decide +kernel
abbrev cJ2_getChar_3b067 : ByteArray := prog_20_method_5_code
def yJ2_getChar_3b067 : MethodName := ⟨RJ2, "getChar", "([BI)C"⟩
abbrev cJ2_length_9d52b : ByteArray := prog_20_method_6_code
def yJ2_length_9d52b : MethodName := ⟨RJ2, "length", "([B)I"⟩
abbrev cJ2_charAt_3b067 : ByteArray := prog_20_method_83_code
def yJ2_charAt_3b067 : MethodName := ⟨RJ2, "charAt", "([BI)C"⟩
abbrev cJ2_checkIndex_2214a : ByteArray := prog_20_method_91_code
def yJ2_checkIndex_2214a : MethodName := ⟨RJ2, "checkIndex", "(I[B)V"⟩
def RJ10 : String := "java/lang/System"
def TJ10 : u_T := fun k => match k with
  | _ => ("", "", "", false)
def tyJ10 : Nat → FieldType := fun k => match k with
  | _ => .int
abbrev wsJ100 : List Cond := u_ws RJ10 TJ10 0
theorem nmJ10 : ∀ a, a < 0 → ∀ b, b < 0 → a ≠ b → (TJ10 a).2.1 ≠ (TJ10 b).2.1 := by decide +kernel
theorem tyJ10_ok : ∀ k, k < 0 → parseFieldDescriptor (TJ10 k).2.2.1 = some (tyJ10 k) := by decide +kernel
def RJ3 : String := "jdk/internal/util/Preconditions"
def TJ3 : u_T := fun k => match k with
  | _ => ("", "", "", false)
def tyJ3 : Nat → FieldType := fun k => match k with
  | _ => .int
abbrev wsJ30 : List Cond := u_ws RJ3 TJ3 0
theorem nmJ3 : ∀ a, a < 0 → ∀ b, b < 0 → a ≠ b → (TJ3 a).2.1 ≠ (TJ3 b).2.1 := by decide +kernel
theorem tyJ3_ok : ∀ k, k < 0 → parseFieldDescriptor (TJ3 k).2.2.1 = some (tyJ3 k) := by decide +kernel
abbrev cJ3_checkIndex_8e157 : ByteArray := prog_22_method_11_code
def yJ3_checkIndex_8e157 : MethodName := ⟨RJ3, "checkIndex", "(IILjava/util/function/BiFunction;)I"⟩
def RL : String := "SmallestSpeedLaw"
abbrev cL_law : ByteArray := code
def yL_law : MethodName := ⟨RL, "law", "([I)Z"⟩
abbrev vwCl : List vw_C := [(RX0, TX0, 0), (RX1, TX1, 2), (RX2, TX2, 0), (RX3, TX3, 0), (RX4, TX4, 8), (RX5, TX5, 0), (RX6, TX6, 18), (RX7, TX7, 3), (RX8, TX8, 2), (RX9, TX9, 0), (RX10, TX10, 0), (RX11, TX11, 15), (RX12, TX12, 22)]
end
section
theorem dX0_init_0 : decode cX0_init 0 = .ok (.aload_n 0, 1) := by decide +kernel
theorem dX0_init_1 : decode cX0_init 1 = .ok (.invokespecial 1, 3) := by decide +kernel
theorem dX0_init_4 : decode cX0_init 4 = .ok (.return_, 1) := by decide +kernel
theorem dX0_highIn_0 : decode cX0_highIn 0 = .ok (.iload_n 2, 1) := by decide +kernel
theorem dX0_highIn_1 : decode cX0_highIn 1 = .ok (.bipush 20, 2) := by decide +kernel
theorem dX0_highIn_3 : decode cX0_highIn 3 = .ok (.if_icmp .ge 12, 3) := by decide +kernel
theorem dX0_highIn_6 : decode cX0_highIn 6 = .ok (.aload_n 0, 1) := by decide +kernel
theorem dX0_highIn_7 : decode cX0_highIn 7 = .ok (.iload_n 1, 1) := by decide +kernel
theorem dX0_highIn_8 : decode cX0_highIn 8 = .ok (.iload_n 2, 1) := by decide +kernel
theorem dX0_highIn_9 : decode cX0_highIn 9 = .ok (.invokespecial 7, 3) := by decide +kernel
theorem dX0_highIn_12 : decode cX0_highIn 12 = .ok (.goto 4, 3) := by decide +kernel
theorem dX0_highIn_15 : decode cX0_highIn 15 = .ok (.iconst 0, 1) := by decide +kernel
theorem dX0_highIn_16 : decode cX0_highIn 16 = .ok (.ireturn, 1) := by decide +kernel
theorem dX1_init_0 : decode cX1_init 0 = .ok (.aload_n 0, 1) := by decide +kernel
theorem dX1_init_1 : decode cX1_init 1 = .ok (.invokespecial 3, 3) := by decide +kernel
theorem dX1_init_4 : decode cX1_init 4 = .ok (.aload_n 0, 1) := by decide +kernel
theorem dX1_init_5 : decode cX1_init 5 = .ok (.new 9, 3) := by decide +kernel
theorem dX1_init_8 : decode cX1_init 8 = .ok (.dup, 1) := by decide +kernel
theorem dX1_init_9 : decode cX1_init 9 = .ok (.invokespecial 11, 3) := by decide +kernel
theorem dX1_init_12 : decode cX1_init 12 = .ok (.putfield 12, 3) := by decide +kernel
theorem dX1_init_15 : decode cX1_init 15 = .ok (.aload_n 0, 1) := by decide +kernel
theorem dX1_init_16 : decode cX1_init 16 = .ok (.bipush 6, 2) := by decide +kernel
theorem dX1_init_18 : decode cX1_init 18 = .ok (.newarray .int, 2) := by decide +kernel
theorem dX1_init_20 : decode cX1_init 20 = .ok (.putfield 18, 3) := by decide +kernel
theorem dX1_init_23 : decode cX1_init 23 = .ok (.return_, 1) := by decide +kernel
theorem dX1_cellOfDrive_0 : decode cX1_cellOfDrive 0 = .ok (.iconst 0, 1) := by decide +kernel
theorem dX1_cellOfDrive_1 : decode cX1_cellOfDrive 1 = .ok (.istore 4, 2) := by decide +kernel
theorem dX1_cellOfDrive_3 : decode cX1_cellOfDrive 3 = .ok (.iload_n 2, 1) := by decide +kernel
theorem dX1_cellOfDrive_4 : decode cX1_cellOfDrive 4 = .ok (.istore 5, 2) := by decide +kernel
theorem dX1_cellOfDrive_6 : decode cX1_cellOfDrive 6 = .ok (.iload 5, 2) := by decide +kernel
theorem dX1_cellOfDrive_8 : decode cX1_cellOfDrive 8 = .ok (.iload_n 3, 1) := by decide +kernel
theorem dX1_cellOfDrive_9 : decode cX1_cellOfDrive 9 = .ok (.if_icmp .ge 43, 3) := by decide +kernel
theorem dX1_cellOfDrive_12 : decode cX1_cellOfDrive 12 = .ok (.aload_n 0, 1) := by decide +kernel
theorem dX1_cellOfDrive_13 : decode cX1_cellOfDrive 13 = .ok (.getfield 12, 3) := by decide +kernel
theorem dX1_cellOfDrive_16 : decode cX1_cellOfDrive 16 = .ok (.aload_n 1, 1) := by decide +kernel
theorem dX1_cellOfDrive_17 : decode cX1_cellOfDrive 17 = .ok (.iload 5, 2) := by decide +kernel
theorem dX1_cellOfDrive_19 : decode cX1_cellOfDrive 19 = .ok (.invokevirtual 22, 3) := by decide +kernel
theorem dX1_cellOfDrive_22 : decode cX1_cellOfDrive 22 = .ok (.bipush 47, 2) := by decide +kernel
theorem dX1_cellOfDrive_24 : decode cX1_cellOfDrive 24 = .ok (.iload 4, 2) := by decide +kernel
theorem dX1_cellOfDrive_26 : decode cX1_cellOfDrive 26 = .ok (.aload_n 0, 1) := by decide +kernel
theorem dX1_cellOfDrive_27 : decode cX1_cellOfDrive 27 = .ok (.getfield 12, 3) := by decide +kernel
theorem dX1_cellOfDrive_30 : decode cX1_cellOfDrive 30 = .ok (.aload_n 1, 1) := by decide +kernel
theorem dX1_cellOfDrive_31 : decode cX1_cellOfDrive 31 = .ok (.aload_n 1, 1) := by decide +kernel
theorem dX1_cellOfDrive_32 : decode cX1_cellOfDrive 32 = .ok (.invokevirtual 26, 3) := by decide +kernel
theorem dX1_cellOfDrive_35 : decode cX1_cellOfDrive 35 = .ok (.iload 4, 2) := by decide +kernel
theorem dX1_cellOfDrive_37 : decode cX1_cellOfDrive 37 = .ok (.invokevirtual 32, 3) := by decide +kernel
theorem dX1_cellOfDrive_40 : decode cX1_cellOfDrive 40 = .ok (.iadd, 1) := by decide +kernel
theorem dX1_cellOfDrive_41 : decode cX1_cellOfDrive 41 = .ok (.invokestatic 36, 3) := by decide +kernel
theorem dX1_cellOfDrive_44 : decode cX1_cellOfDrive 44 = .ok (.istore 4, 2) := by decide +kernel
theorem dX1_cellOfDrive_46 : decode cX1_cellOfDrive 46 = .ok (.iinc 5 1, 3) := by decide +kernel
theorem dX1_cellOfDrive_49 : decode cX1_cellOfDrive 49 = .ok (.goto (-43), 3) := by decide +kernel
theorem dX1_cellOfDrive_52 : decode cX1_cellOfDrive 52 = .ok (.iload 4, 2) := by decide +kernel
theorem dX1_cellOfDrive_54 : decode cX1_cellOfDrive 54 = .ok (.ireturn, 1) := by decide +kernel
theorem dX1_endOfDrive_0 : decode cX1_endOfDrive 0 = .ok (.iconst 0, 1) := by decide +kernel
theorem dX1_endOfDrive_1 : decode cX1_endOfDrive 1 = .ok (.istore 4, 2) := by decide +kernel
theorem dX1_endOfDrive_3 : decode cX1_endOfDrive 3 = .ok (.iload_n 3, 1) := by decide +kernel
theorem dX1_endOfDrive_4 : decode cX1_endOfDrive 4 = .ok (.istore 5, 2) := by decide +kernel
theorem dX1_endOfDrive_6 : decode cX1_endOfDrive 6 = .ok (.iload 5, 2) := by decide +kernel
theorem dX1_endOfDrive_8 : decode cX1_endOfDrive 8 = .ok (.bipush 60, 2) := by decide +kernel
theorem dX1_endOfDrive_10 : decode cX1_endOfDrive 10 = .ok (.if_icmp .ge 47, 3) := by decide +kernel
theorem dX1_endOfDrive_13 : decode cX1_endOfDrive 13 = .ok (.aload_n 0, 1) := by decide +kernel
theorem dX1_endOfDrive_14 : decode cX1_endOfDrive 14 = .ok (.getfield 12, 3) := by decide +kernel
theorem dX1_endOfDrive_17 : decode cX1_endOfDrive 17 = .ok (.aload_n 1, 1) := by decide +kernel
theorem dX1_endOfDrive_18 : decode cX1_endOfDrive 18 = .ok (.iload 5, 2) := by decide +kernel
theorem dX1_endOfDrive_20 : decode cX1_endOfDrive 20 = .ok (.invokevirtual 22, 3) := by decide +kernel
theorem dX1_endOfDrive_23 : decode cX1_endOfDrive 23 = .ok (.iload 4, 2) := by decide +kernel
theorem dX1_endOfDrive_25 : decode cX1_endOfDrive 25 = .ok (.aload_n 0, 1) := by decide +kernel
theorem dX1_endOfDrive_26 : decode cX1_endOfDrive 26 = .ok (.getfield 12, 3) := by decide +kernel
theorem dX1_endOfDrive_29 : decode cX1_endOfDrive 29 = .ok (.aload_n 1, 1) := by decide +kernel
theorem dX1_endOfDrive_30 : decode cX1_endOfDrive 30 = .ok (.iload_n 2, 1) := by decide +kernel
theorem dX1_endOfDrive_31 : decode cX1_endOfDrive 31 = .ok (.iload 4, 2) := by decide +kernel
theorem dX1_endOfDrive_33 : decode cX1_endOfDrive 33 = .ok (.invokevirtual 32, 3) := by decide +kernel
theorem dX1_endOfDrive_36 : decode cX1_endOfDrive 36 = .ok (.iadd, 1) := by decide +kernel
theorem dX1_endOfDrive_37 : decode cX1_endOfDrive 37 = .ok (.istore 4, 2) := by decide +kernel
theorem dX1_endOfDrive_39 : decode cX1_endOfDrive 39 = .ok (.iload 4, 2) := by decide +kernel
theorem dX1_endOfDrive_41 : decode cX1_endOfDrive 41 = .ok (.bipush 47, 2) := by decide +kernel
theorem dX1_endOfDrive_43 : decode cX1_endOfDrive 43 = .ok (.if_icmp .lt 8, 3) := by decide +kernel
theorem dX1_endOfDrive_46 : decode cX1_endOfDrive 46 = .ok (.iload 5, 2) := by decide +kernel
theorem dX1_endOfDrive_48 : decode cX1_endOfDrive 48 = .ok (.iconst 1, 1) := by decide +kernel
theorem dX1_endOfDrive_49 : decode cX1_endOfDrive 49 = .ok (.iadd, 1) := by decide +kernel
theorem dX1_endOfDrive_50 : decode cX1_endOfDrive 50 = .ok (.ireturn, 1) := by decide +kernel
theorem dX1_endOfDrive_51 : decode cX1_endOfDrive 51 = .ok (.iinc 5 1, 3) := by decide +kernel
theorem dX1_endOfDrive_54 : decode cX1_endOfDrive 54 = .ok (.goto (-48), 3) := by decide +kernel
theorem dX1_endOfDrive_57 : decode cX1_endOfDrive 57 = .ok (.bipush 61, 2) := by decide +kernel
theorem dX1_endOfDrive_59 : decode cX1_endOfDrive 59 = .ok (.ireturn, 1) := by decide +kernel
theorem dX1_soonestEnd_0 : decode cX1_soonestEnd 0 = .ok (.iconst 0, 1) := by decide +kernel
theorem dX1_soonestEnd_1 : decode cX1_soonestEnd 1 = .ok (.istore 4, 2) := by decide +kernel
theorem dX1_soonestEnd_3 : decode cX1_soonestEnd 3 = .ok (.iload_n 3, 1) := by decide +kernel
theorem dX1_soonestEnd_4 : decode cX1_soonestEnd 4 = .ok (.istore 5, 2) := by decide +kernel
theorem dX1_soonestEnd_6 : decode cX1_soonestEnd 6 = .ok (.iload 5, 2) := by decide +kernel
theorem dX1_soonestEnd_8 : decode cX1_soonestEnd 8 = .ok (.bipush 60, 2) := by decide +kernel
theorem dX1_soonestEnd_10 : decode cX1_soonestEnd 10 = .ok (.if_icmp .ge 84, 3) := by decide +kernel
theorem dX1_soonestEnd_13 : decode cX1_soonestEnd 13 = .ok (.aload_n 0, 1) := by decide +kernel
theorem dX1_soonestEnd_14 : decode cX1_soonestEnd 14 = .ok (.getfield 12, 3) := by decide +kernel
theorem dX1_soonestEnd_17 : decode cX1_soonestEnd 17 = .ok (.aload_n 1, 1) := by decide +kernel
theorem dX1_soonestEnd_18 : decode cX1_soonestEnd 18 = .ok (.iload 5, 2) := by decide +kernel
theorem dX1_soonestEnd_20 : decode cX1_soonestEnd 20 = .ok (.invokevirtual 22, 3) := by decide +kernel
theorem dX1_soonestEnd_23 : decode cX1_soonestEnd 23 = .ok (.iload 4, 2) := by decide +kernel
theorem dX1_soonestEnd_25 : decode cX1_soonestEnd 25 = .ok (.istore 6, 2) := by decide +kernel
theorem dX1_soonestEnd_27 : decode cX1_soonestEnd 27 = .ok (.iconst 0, 1) := by decide +kernel
theorem dX1_soonestEnd_28 : decode cX1_soonestEnd 28 = .ok (.iload 4, 2) := by decide +kernel
theorem dX1_soonestEnd_30 : decode cX1_soonestEnd 30 = .ok (.bipush 9, 2) := by decide +kernel
theorem dX1_soonestEnd_32 : decode cX1_soonestEnd 32 = .ok (.isub, 1) := by decide +kernel
theorem dX1_soonestEnd_33 : decode cX1_soonestEnd 33 = .ok (.invokestatic 42, 3) := by decide +kernel
theorem dX1_soonestEnd_36 : decode cX1_soonestEnd 36 = .ok (.istore 7, 2) := by decide +kernel
theorem dX1_soonestEnd_38 : decode cX1_soonestEnd 38 = .ok (.iload 7, 2) := by decide +kernel
theorem dX1_soonestEnd_40 : decode cX1_soonestEnd 40 = .ok (.iload 4, 2) := by decide +kernel
theorem dX1_soonestEnd_42 : decode cX1_soonestEnd 42 = .ok (.if_icmp .gt 30, 3) := by decide +kernel
theorem dX1_soonestEnd_45 : decode cX1_soonestEnd 45 = .ok (.iload 6, 2) := by decide +kernel
theorem dX1_soonestEnd_47 : decode cX1_soonestEnd 47 = .ok (.iload 7, 2) := by decide +kernel
theorem dX1_soonestEnd_49 : decode cX1_soonestEnd 49 = .ok (.aload_n 0, 1) := by decide +kernel
theorem dX1_soonestEnd_50 : decode cX1_soonestEnd 50 = .ok (.getfield 12, 3) := by decide +kernel
theorem dX1_soonestEnd_53 : decode cX1_soonestEnd 53 = .ok (.aload_n 1, 1) := by decide +kernel
theorem dX1_soonestEnd_54 : decode cX1_soonestEnd 54 = .ok (.iload_n 2, 1) := by decide +kernel
theorem dX1_soonestEnd_55 : decode cX1_soonestEnd 55 = .ok (.iload 7, 2) := by decide +kernel
theorem dX1_soonestEnd_57 : decode cX1_soonestEnd 57 = .ok (.invokevirtual 32, 3) := by decide +kernel
theorem dX1_soonestEnd_60 : decode cX1_soonestEnd 60 = .ok (.iadd, 1) := by decide +kernel
theorem dX1_soonestEnd_61 : decode cX1_soonestEnd 61 = .ok (.invokestatic 42, 3) := by decide +kernel
theorem dX1_soonestEnd_64 : decode cX1_soonestEnd 64 = .ok (.istore 6, 2) := by decide +kernel
theorem dX1_soonestEnd_66 : decode cX1_soonestEnd 66 = .ok (.iinc 7 1, 3) := by decide +kernel
theorem dX1_soonestEnd_69 : decode cX1_soonestEnd 69 = .ok (.goto (-31), 3) := by decide +kernel
theorem dX1_soonestEnd_72 : decode cX1_soonestEnd 72 = .ok (.iload 6, 2) := by decide +kernel
theorem dX1_soonestEnd_74 : decode cX1_soonestEnd 74 = .ok (.bipush 47, 2) := by decide +kernel
theorem dX1_soonestEnd_76 : decode cX1_soonestEnd 76 = .ok (.if_icmp .lt 8, 3) := by decide +kernel
theorem dX1_soonestEnd_79 : decode cX1_soonestEnd 79 = .ok (.iload 5, 2) := by decide +kernel
theorem dX1_soonestEnd_81 : decode cX1_soonestEnd 81 = .ok (.iconst 1, 1) := by decide +kernel
theorem dX1_soonestEnd_82 : decode cX1_soonestEnd 82 = .ok (.iadd, 1) := by decide +kernel
theorem dX1_soonestEnd_83 : decode cX1_soonestEnd 83 = .ok (.ireturn, 1) := by decide +kernel
theorem dX1_soonestEnd_84 : decode cX1_soonestEnd 84 = .ok (.iload 6, 2) := by decide +kernel
theorem dX1_soonestEnd_86 : decode cX1_soonestEnd 86 = .ok (.istore 4, 2) := by decide +kernel
theorem dX1_soonestEnd_88 : decode cX1_soonestEnd 88 = .ok (.iinc 5 1, 3) := by decide +kernel
theorem dX1_soonestEnd_91 : decode cX1_soonestEnd 91 = .ok (.goto (-85), 3) := by decide +kernel
theorem dX1_soonestEnd_94 : decode cX1_soonestEnd 94 = .ok (.bipush 61, 2) := by decide +kernel
theorem dX1_soonestEnd_96 : decode cX1_soonestEnd 96 = .ok (.ireturn, 1) := by decide +kernel
theorem dX1_bestStart_0 : decode cX1_bestStart 0 = .ok (.iconst (-1), 1) := by decide +kernel
theorem dX1_bestStart_1 : decode cX1_bestStart 1 = .ok (.istore_n 3, 1) := by decide +kernel
theorem dX1_bestStart_2 : decode cX1_bestStart 2 = .ok (.bipush 60, 2) := by decide +kernel
theorem dX1_bestStart_4 : decode cX1_bestStart 4 = .ok (.istore 4, 2) := by decide +kernel
theorem dX1_bestStart_6 : decode cX1_bestStart 6 = .ok (.iload_n 2, 1) := by decide +kernel
theorem dX1_bestStart_7 : decode cX1_bestStart 7 = .ok (.istore 5, 2) := by decide +kernel
theorem dX1_bestStart_9 : decode cX1_bestStart 9 = .ok (.iload 5, 2) := by decide +kernel
theorem dX1_bestStart_11 : decode cX1_bestStart 11 = .ok (.bipush 60, 2) := by decide +kernel
theorem dX1_bestStart_13 : decode cX1_bestStart 13 = .ok (.if_icmp .ge 36, 3) := by decide +kernel
theorem dX1_bestStart_16 : decode cX1_bestStart 16 = .ok (.aload_n 0, 1) := by decide +kernel
theorem dX1_bestStart_17 : decode cX1_bestStart 17 = .ok (.aload_n 1, 1) := by decide +kernel
theorem dX1_bestStart_18 : decode cX1_bestStart 18 = .ok (.aload_n 1, 1) := by decide +kernel
theorem dX1_bestStart_19 : decode cX1_bestStart 19 = .ok (.invokevirtual 26, 3) := by decide +kernel
theorem dX1_bestStart_22 : decode cX1_bestStart 22 = .ok (.iload 5, 2) := by decide +kernel
theorem dX1_bestStart_24 : decode cX1_bestStart 24 = .ok (.invokevirtual 45, 3) := by decide +kernel
theorem dX1_bestStart_27 : decode cX1_bestStart 27 = .ok (.istore 6, 2) := by decide +kernel
theorem dX1_bestStart_29 : decode cX1_bestStart 29 = .ok (.iload 6, 2) := by decide +kernel
theorem dX1_bestStart_31 : decode cX1_bestStart 31 = .ok (.iload 4, 2) := by decide +kernel
theorem dX1_bestStart_33 : decode cX1_bestStart 33 = .ok (.if_icmp .gt 10, 3) := by decide +kernel
theorem dX1_bestStart_36 : decode cX1_bestStart 36 = .ok (.iload 5, 2) := by decide +kernel
theorem dX1_bestStart_38 : decode cX1_bestStart 38 = .ok (.istore_n 3, 1) := by decide +kernel
theorem dX1_bestStart_39 : decode cX1_bestStart 39 = .ok (.iload 6, 2) := by decide +kernel
theorem dX1_bestStart_41 : decode cX1_bestStart 41 = .ok (.istore 4, 2) := by decide +kernel
theorem dX1_bestStart_43 : decode cX1_bestStart 43 = .ok (.iinc 5 1, 3) := by decide +kernel
theorem dX1_bestStart_46 : decode cX1_bestStart 46 = .ok (.goto (-37), 3) := by decide +kernel
theorem dX1_bestStart_49 : decode cX1_bestStart 49 = .ok (.iload_n 3, 1) := by decide +kernel
theorem dX1_bestStart_50 : decode cX1_bestStart 50 = .ok (.ireturn, 1) := by decide +kernel
theorem dX1_driveBySpeeds_0 : decode cX1_driveBySpeeds 0 = .ok (.iconst (-1), 1) := by decide +kernel
theorem dX1_driveBySpeeds_1 : decode cX1_driveBySpeeds 1 = .ok (.istore 4, 2) := by decide +kernel
theorem dX1_driveBySpeeds_3 : decode cX1_driveBySpeeds 3 = .ok (.iconst 0, 1) := by decide +kernel
theorem dX1_driveBySpeeds_4 : decode cX1_driveBySpeeds 4 = .ok (.istore 5, 2) := by decide +kernel
theorem dX1_driveBySpeeds_6 : decode cX1_driveBySpeeds 6 = .ok (.iconst 0, 1) := by decide +kernel
theorem dX1_driveBySpeeds_7 : decode cX1_driveBySpeeds 7 = .ok (.istore 6, 2) := by decide +kernel
theorem dX1_driveBySpeeds_9 : decode cX1_driveBySpeeds 9 = .ok (.iconst 0, 1) := by decide +kernel
theorem dX1_driveBySpeeds_10 : decode cX1_driveBySpeeds 10 = .ok (.istore 7, 2) := by decide +kernel
theorem dX1_driveBySpeeds_12 : decode cX1_driveBySpeeds 12 = .ok (.iconst 0, 1) := by decide +kernel
theorem dX1_driveBySpeeds_13 : decode cX1_driveBySpeeds 13 = .ok (.istore 8, 2) := by decide +kernel
theorem dX1_driveBySpeeds_15 : decode cX1_driveBySpeeds 15 = .ok (.iload 8, 2) := by decide +kernel
theorem dX1_driveBySpeeds_17 : decode cX1_driveBySpeeds 17 = .ok (.aload_n 1, 1) := by decide +kernel
theorem dX1_driveBySpeeds_18 : decode cX1_driveBySpeeds 18 = .ok (.getfield 48, 3) := by decide +kernel
theorem dX1_driveBySpeeds_21 : decode cX1_driveBySpeeds 21 = .ok (.if_icmp .ge 126, 3) := by decide +kernel
theorem dX1_driveBySpeeds_24 : decode cX1_driveBySpeeds 24 = .ok (.iload_n 2, 1) := by decide +kernel
theorem dX1_driveBySpeeds_25 : decode cX1_driveBySpeeds 25 = .ok (.iload 8, 2) := by decide +kernel
theorem dX1_driveBySpeeds_27 : decode cX1_driveBySpeeds 27 = .ok (.iadd, 1) := by decide +kernel
theorem dX1_driveBySpeeds_28 : decode cX1_driveBySpeeds 28 = .ok (.bipush 60, 2) := by decide +kernel
theorem dX1_driveBySpeeds_30 : decode cX1_driveBySpeeds 30 = .ok (.if_icmp .ge 117, 3) := by decide +kernel
theorem dX1_driveBySpeeds_33 : decode cX1_driveBySpeeds 33 = .ok (.aload_n 0, 1) := by decide +kernel
theorem dX1_driveBySpeeds_34 : decode cX1_driveBySpeeds 34 = .ok (.getfield 12, 3) := by decide +kernel
theorem dX1_driveBySpeeds_37 : decode cX1_driveBySpeeds 37 = .ok (.aload_n 1, 1) := by decide +kernel
theorem dX1_driveBySpeeds_38 : decode cX1_driveBySpeeds 38 = .ok (.iload_n 2, 1) := by decide +kernel
theorem dX1_driveBySpeeds_39 : decode cX1_driveBySpeeds 39 = .ok (.iload 8, 2) := by decide +kernel
theorem dX1_driveBySpeeds_41 : decode cX1_driveBySpeeds 41 = .ok (.iadd, 1) := by decide +kernel
theorem dX1_driveBySpeeds_42 : decode cX1_driveBySpeeds 42 = .ok (.invokevirtual 22, 3) := by decide +kernel
theorem dX1_driveBySpeeds_45 : decode cX1_driveBySpeeds 45 = .ok (.aload_n 1, 1) := by decide +kernel
theorem dX1_driveBySpeeds_46 : decode cX1_driveBySpeeds 46 = .ok (.getfield 52, 3) := by decide +kernel
theorem dX1_driveBySpeeds_49 : decode cX1_driveBySpeeds 49 = .ok (.iload 8, 2) := by decide +kernel
theorem dX1_driveBySpeeds_51 : decode cX1_driveBySpeeds 51 = .ok (.iaload, 1) := by decide +kernel
theorem dX1_driveBySpeeds_52 : decode cX1_driveBySpeeds 52 = .ok (.aload_n 0, 1) := by decide +kernel
theorem dX1_driveBySpeeds_53 : decode cX1_driveBySpeeds 53 = .ok (.getfield 12, 3) := by decide +kernel
theorem dX1_driveBySpeeds_56 : decode cX1_driveBySpeeds 56 = .ok (.aload_n 1, 1) := by decide +kernel
theorem dX1_driveBySpeeds_57 : decode cX1_driveBySpeeds 57 = .ok (.aload_n 1, 1) := by decide +kernel
theorem dX1_driveBySpeeds_58 : decode cX1_driveBySpeeds 58 = .ok (.invokevirtual 26, 3) := by decide +kernel
theorem dX1_driveBySpeeds_61 : decode cX1_driveBySpeeds 61 = .ok (.iload 7, 2) := by decide +kernel
theorem dX1_driveBySpeeds_63 : decode cX1_driveBySpeeds 63 = .ok (.invokevirtual 32, 3) := by decide +kernel
theorem dX1_driveBySpeeds_66 : decode cX1_driveBySpeeds 66 = .ok (.isub, 1) := by decide +kernel
theorem dX1_driveBySpeeds_67 : decode cX1_driveBySpeeds 67 = .ok (.istore 9, 2) := by decide +kernel
theorem dX1_driveBySpeeds_69 : decode cX1_driveBySpeeds 69 = .ok (.iload 9, 2) := by decide +kernel
theorem dX1_driveBySpeeds_71 : decode cX1_driveBySpeeds 71 = .ok (.ifCond .le 25, 3) := by decide +kernel
theorem dX1_driveBySpeeds_74 : decode cX1_driveBySpeeds 74 = .ok (.iload 5, 2) := by decide +kernel
theorem dX1_driveBySpeeds_76 : decode cX1_driveBySpeeds 76 = .ok (.iload 9, 2) := by decide +kernel
theorem dX1_driveBySpeeds_78 : decode cX1_driveBySpeeds 78 = .ok (.iadd, 1) := by decide +kernel
theorem dX1_driveBySpeeds_79 : decode cX1_driveBySpeeds 79 = .ok (.istore 5, 2) := by decide +kernel
theorem dX1_driveBySpeeds_81 : decode cX1_driveBySpeeds 81 = .ok (.iload 4, 2) := by decide +kernel
theorem dX1_driveBySpeeds_83 : decode cX1_driveBySpeeds 83 = .ok (.iconst (-1), 1) := by decide +kernel
theorem dX1_driveBySpeeds_84 : decode cX1_driveBySpeeds 84 = .ok (.if_icmp .ne 8, 3) := by decide +kernel
theorem dX1_driveBySpeeds_87 : decode cX1_driveBySpeeds 87 = .ok (.iload 8, 2) := by decide +kernel
theorem dX1_driveBySpeeds_89 : decode cX1_driveBySpeeds 89 = .ok (.goto 5, 3) := by decide +kernel
theorem dX1_driveBySpeeds_92 : decode cX1_driveBySpeeds 92 = .ok (.iload 4, 2) := by decide +kernel
theorem dX1_driveBySpeeds_94 : decode cX1_driveBySpeeds 94 = .ok (.istore 4, 2) := by decide +kernel
theorem dX1_driveBySpeeds_96 : decode cX1_driveBySpeeds 96 = .ok (.bipush 47, 2) := by decide +kernel
theorem dX1_driveBySpeeds_98 : decode cX1_driveBySpeeds 98 = .ok (.iload 7, 2) := by decide +kernel
theorem dX1_driveBySpeeds_100 : decode cX1_driveBySpeeds 100 = .ok (.aload_n 1, 1) := by decide +kernel
theorem dX1_driveBySpeeds_101 : decode cX1_driveBySpeeds 101 = .ok (.getfield 52, 3) := by decide +kernel
theorem dX1_driveBySpeeds_104 : decode cX1_driveBySpeeds 104 = .ok (.iload 8, 2) := by decide +kernel
theorem dX1_driveBySpeeds_106 : decode cX1_driveBySpeeds 106 = .ok (.iaload, 1) := by decide +kernel
theorem dX1_driveBySpeeds_107 : decode cX1_driveBySpeeds 107 = .ok (.iadd, 1) := by decide +kernel
theorem dX1_driveBySpeeds_108 : decode cX1_driveBySpeeds 108 = .ok (.invokestatic 36, 3) := by decide +kernel
theorem dX1_driveBySpeeds_111 : decode cX1_driveBySpeeds 111 = .ok (.istore 10, 2) := by decide +kernel
theorem dX1_driveBySpeeds_113 : decode cX1_driveBySpeeds 113 = .ok (.iload 10, 2) := by decide +kernel
theorem dX1_driveBySpeeds_115 : decode cX1_driveBySpeeds 115 = .ok (.iload 7, 2) := by decide +kernel
theorem dX1_driveBySpeeds_117 : decode cX1_driveBySpeeds 117 = .ok (.if_icmp .le 20, 3) := by decide +kernel
theorem dX1_driveBySpeeds_120 : decode cX1_driveBySpeeds 120 = .ok (.iload 6, 2) := by decide +kernel
theorem dX1_driveBySpeeds_122 : decode cX1_driveBySpeeds 122 = .ok (.aload_n 0, 1) := by decide +kernel
theorem dX1_driveBySpeeds_123 : decode cX1_driveBySpeeds 123 = .ok (.getfield 12, 3) := by decide +kernel
theorem dX1_driveBySpeeds_126 : decode cX1_driveBySpeeds 126 = .ok (.aload_n 1, 1) := by decide +kernel
theorem dX1_driveBySpeeds_127 : decode cX1_driveBySpeeds 127 = .ok (.iload 7, 2) := by decide +kernel
theorem dX1_driveBySpeeds_129 : decode cX1_driveBySpeeds 129 = .ok (.iload 10, 2) := by decide +kernel
theorem dX1_driveBySpeeds_131 : decode cX1_driveBySpeeds 131 = .ok (.invokevirtual 55, 3) := by decide +kernel
theorem dX1_driveBySpeeds_134 : decode cX1_driveBySpeeds 134 = .ok (.ior, 1) := by decide +kernel
theorem dX1_driveBySpeeds_135 : decode cX1_driveBySpeeds 135 = .ok (.istore 6, 2) := by decide +kernel
theorem dX1_driveBySpeeds_137 : decode cX1_driveBySpeeds 137 = .ok (.iload 10, 2) := by decide +kernel
theorem dX1_driveBySpeeds_139 : decode cX1_driveBySpeeds 139 = .ok (.istore 7, 2) := by decide +kernel
theorem dX1_driveBySpeeds_141 : decode cX1_driveBySpeeds 141 = .ok (.iinc 8 1, 3) := by decide +kernel
theorem dX1_driveBySpeeds_144 : decode cX1_driveBySpeeds 144 = .ok (.goto (-129), 3) := by decide +kernel
theorem dX1_driveBySpeeds_147 : decode cX1_driveBySpeeds 147 = .ok (.iload_n 3, 1) := by decide +kernel
theorem dX1_driveBySpeeds_148 : decode cX1_driveBySpeeds 148 = .ok (.ifCond .ne 6, 3) := by decide +kernel
theorem dX1_driveBySpeeds_151 : decode cX1_driveBySpeeds 151 = .ok (.iload 4, 2) := by decide +kernel
theorem dX1_driveBySpeeds_153 : decode cX1_driveBySpeeds 153 = .ok (.ireturn, 1) := by decide +kernel
theorem dX1_driveBySpeeds_154 : decode cX1_driveBySpeeds 154 = .ok (.iload_n 3, 1) := by decide +kernel
theorem dX1_driveBySpeeds_155 : decode cX1_driveBySpeeds 155 = .ok (.iconst 1, 1) := by decide +kernel
theorem dX1_driveBySpeeds_156 : decode cX1_driveBySpeeds 156 = .ok (.if_icmp .ne 8, 3) := by decide +kernel
theorem dX1_driveBySpeeds_159 : decode cX1_driveBySpeeds 159 = .ok (.iload 5, 2) := by decide +kernel
theorem dX1_driveBySpeeds_161 : decode cX1_driveBySpeeds 161 = .ok (.goto 5, 3) := by decide +kernel
theorem dX1_driveBySpeeds_164 : decode cX1_driveBySpeeds 164 = .ok (.iload 6, 2) := by decide +kernel
theorem dX1_driveBySpeeds_166 : decode cX1_driveBySpeeds 166 = .ok (.ireturn, 1) := by decide +kernel
theorem dX1_bestToBed_0 : decode cX1_bestToBed 0 = .ok (.aload_n 1, 1) := by decide +kernel
theorem dX1_bestToBed_1 : decode cX1_bestToBed 1 = .ok (.invokevirtual 26, 3) := by decide +kernel
theorem dX1_bestToBed_4 : decode cX1_bestToBed 4 = .ok (.istore 4, 2) := by decide +kernel
theorem dX1_bestToBed_6 : decode cX1_bestToBed 6 = .ok (.iconst 0, 1) := by decide +kernel
theorem dX1_bestToBed_7 : decode cX1_bestToBed 7 = .ok (.istore 5, 2) := by decide +kernel
theorem dX1_bestToBed_9 : decode cX1_bestToBed 9 = .ok (.aload_n 0, 1) := by decide +kernel
theorem dX1_bestToBed_10 : decode cX1_bestToBed 10 = .ok (.aload_n 1, 1) := by decide +kernel
theorem dX1_bestToBed_11 : decode cX1_bestToBed 11 = .ok (.iload 4, 2) := by decide +kernel
theorem dX1_bestToBed_13 : decode cX1_bestToBed 13 = .ok (.iload_n 2, 1) := by decide +kernel
theorem dX1_bestToBed_14 : decode cX1_bestToBed 14 = .ok (.invokevirtual 58, 3) := by decide +kernel
theorem dX1_bestToBed_17 : decode cX1_bestToBed 17 = .ok (.istore 6, 2) := by decide +kernel
theorem dX1_bestToBed_19 : decode cX1_bestToBed 19 = .ok (.iconst 1, 1) := by decide +kernel
theorem dX1_bestToBed_20 : decode cX1_bestToBed 20 = .ok (.istore 7, 2) := by decide +kernel
theorem dX1_bestToBed_22 : decode cX1_bestToBed 22 = .ok (.iload 7, 2) := by decide +kernel
theorem dX1_bestToBed_24 : decode cX1_bestToBed 24 = .ok (.iload 4, 2) := by decide +kernel
theorem dX1_bestToBed_26 : decode cX1_bestToBed 26 = .ok (.if_icmp .gt 80, 3) := by decide +kernel
theorem dX1_bestToBed_29 : decode cX1_bestToBed 29 = .ok (.iload 7, 2) := by decide +kernel
theorem dX1_bestToBed_31 : decode cX1_bestToBed 31 = .ok (.invokestatic 61, 3) := by decide +kernel
theorem dX1_bestToBed_34 : decode cX1_bestToBed 34 = .ok (.iload_n 3, 1) := by decide +kernel
theorem dX1_bestToBed_35 : decode cX1_bestToBed 35 = .ok (.if_icmp .gt 65, 3) := by decide +kernel
theorem dX1_bestToBed_38 : decode cX1_bestToBed 38 = .ok (.aload_n 0, 1) := by decide +kernel
theorem dX1_bestToBed_39 : decode cX1_bestToBed 39 = .ok (.aload_n 1, 1) := by decide +kernel
theorem dX1_bestToBed_40 : decode cX1_bestToBed 40 = .ok (.iload 4, 2) := by decide +kernel
theorem dX1_bestToBed_42 : decode cX1_bestToBed 42 = .ok (.iload 7, 2) := by decide +kernel
theorem dX1_bestToBed_44 : decode cX1_bestToBed 44 = .ok (.iconst (-1), 1) := by decide +kernel
theorem dX1_bestToBed_45 : decode cX1_bestToBed 45 = .ok (.ixor, 1) := by decide +kernel
theorem dX1_bestToBed_46 : decode cX1_bestToBed 46 = .ok (.iand, 1) := by decide +kernel
theorem dX1_bestToBed_47 : decode cX1_bestToBed 47 = .ok (.iload_n 2, 1) := by decide +kernel
theorem dX1_bestToBed_48 : decode cX1_bestToBed 48 = .ok (.invokevirtual 58, 3) := by decide +kernel
theorem dX1_bestToBed_51 : decode cX1_bestToBed 51 = .ok (.istore 8, 2) := by decide +kernel
theorem dX1_bestToBed_53 : decode cX1_bestToBed 53 = .ok (.iload 7, 2) := by decide +kernel
theorem dX1_bestToBed_55 : decode cX1_bestToBed 55 = .ok (.invokestatic 61, 3) := by decide +kernel
theorem dX1_bestToBed_58 : decode cX1_bestToBed 58 = .ok (.iload 5, 2) := by decide +kernel
theorem dX1_bestToBed_60 : decode cX1_bestToBed 60 = .ok (.invokestatic 61, 3) := by decide +kernel
theorem dX1_bestToBed_63 : decode cX1_bestToBed 63 = .ok (.if_icmp .ge 7, 3) := by decide +kernel
theorem dX1_bestToBed_66 : decode cX1_bestToBed 66 = .ok (.iconst 1, 1) := by decide +kernel
theorem dX1_bestToBed_67 : decode cX1_bestToBed 67 = .ok (.goto 4, 3) := by decide +kernel
theorem dX1_bestToBed_70 : decode cX1_bestToBed 70 = .ok (.iconst 0, 1) := by decide +kernel
theorem dX1_bestToBed_71 : decode cX1_bestToBed 71 = .ok (.istore 9, 2) := by decide +kernel
theorem dX1_bestToBed_73 : decode cX1_bestToBed 73 = .ok (.iload 8, 2) := by decide +kernel
theorem dX1_bestToBed_75 : decode cX1_bestToBed 75 = .ok (.iload 6, 2) := by decide +kernel
theorem dX1_bestToBed_77 : decode cX1_bestToBed 77 = .ok (.if_icmp .lt 15, 3) := by decide +kernel
theorem dX1_bestToBed_80 : decode cX1_bestToBed 80 = .ok (.iload 8, 2) := by decide +kernel
theorem dX1_bestToBed_82 : decode cX1_bestToBed 82 = .ok (.iload 6, 2) := by decide +kernel
theorem dX1_bestToBed_84 : decode cX1_bestToBed 84 = .ok (.if_icmp .ne 16, 3) := by decide +kernel
theorem dX1_bestToBed_87 : decode cX1_bestToBed 87 = .ok (.iload 9, 2) := by decide +kernel
theorem dX1_bestToBed_89 : decode cX1_bestToBed 89 = .ok (.ifCond .eq 11, 3) := by decide +kernel
theorem dX1_bestToBed_92 : decode cX1_bestToBed 92 = .ok (.iload 7, 2) := by decide +kernel
theorem dX1_bestToBed_94 : decode cX1_bestToBed 94 = .ok (.istore 5, 2) := by decide +kernel
theorem dX1_bestToBed_96 : decode cX1_bestToBed 96 = .ok (.iload 8, 2) := by decide +kernel
theorem dX1_bestToBed_98 : decode cX1_bestToBed 98 = .ok (.istore 6, 2) := by decide +kernel
theorem dX1_bestToBed_100 : decode cX1_bestToBed 100 = .ok (.iinc 7 1, 3) := by decide +kernel
theorem dX1_bestToBed_103 : decode cX1_bestToBed 103 = .ok (.goto (-81), 3) := by decide +kernel
theorem dX1_bestToBed_106 : decode cX1_bestToBed 106 = .ok (.iload 5, 2) := by decide +kernel
theorem dX1_bestToBed_108 : decode cX1_bestToBed 108 = .ok (.ireturn, 1) := by decide +kernel
theorem dX1_bestMove_0 : decode cX1_bestMove 0 = .ok (.iconst (-1), 1) := by decide +kernel
theorem dX1_bestMove_1 : decode cX1_bestMove 1 = .ok (.istore_n 3, 1) := by decide +kernel
theorem dX1_bestMove_2 : decode cX1_bestMove 2 = .ok (.aload_n 0, 1) := by decide +kernel
theorem dX1_bestMove_3 : decode cX1_bestMove 3 = .ok (.aload_n 1, 1) := by decide +kernel
theorem dX1_bestMove_4 : decode cX1_bestMove 4 = .ok (.aload_n 1, 1) := by decide +kernel
theorem dX1_bestMove_5 : decode cX1_bestMove 5 = .ok (.invokevirtual 26, 3) := by decide +kernel
theorem dX1_bestMove_8 : decode cX1_bestMove 8 = .ok (.iload_n 2, 1) := by decide +kernel
theorem dX1_bestMove_9 : decode cX1_bestMove 9 = .ok (.invokevirtual 45, 3) := by decide +kernel
theorem dX1_bestMove_12 : decode cX1_bestMove 12 = .ok (.istore 4, 2) := by decide +kernel
theorem dX1_bestMove_14 : decode cX1_bestMove 14 = .ok (.iconst 0, 1) := by decide +kernel
theorem dX1_bestMove_15 : decode cX1_bestMove 15 = .ok (.istore 5, 2) := by decide +kernel
theorem dX1_bestMove_17 : decode cX1_bestMove 17 = .ok (.iload 5, 2) := by decide +kernel
theorem dX1_bestMove_19 : decode cX1_bestMove 19 = .ok (.aload_n 1, 1) := by decide +kernel
theorem dX1_bestMove_20 : decode cX1_bestMove 20 = .ok (.getfield 67, 3) := by decide +kernel
theorem dX1_bestMove_23 : decode cX1_bestMove 23 = .ok (.if_icmp .ge 84, 3) := by decide +kernel
theorem dX1_bestMove_26 : decode cX1_bestMove 26 = .ok (.aload_n 1, 1) := by decide +kernel
theorem dX1_bestMove_27 : decode cX1_bestMove 27 = .ok (.getfield 70, 3) := by decide +kernel
theorem dX1_bestMove_30 : decode cX1_bestMove 30 = .ok (.iload 5, 2) := by decide +kernel
theorem dX1_bestMove_32 : decode cX1_bestMove 32 = .ok (.iaload, 1) := by decide +kernel
theorem dX1_bestMove_33 : decode cX1_bestMove 33 = .ok (.istore 6, 2) := by decide +kernel
theorem dX1_bestMove_35 : decode cX1_bestMove 35 = .ok (.iconst 0, 1) := by decide +kernel
theorem dX1_bestMove_36 : decode cX1_bestMove 36 = .ok (.istore 7, 2) := by decide +kernel
theorem dX1_bestMove_38 : decode cX1_bestMove 38 = .ok (.iload 7, 2) := by decide +kernel
theorem dX1_bestMove_40 : decode cX1_bestMove 40 = .ok (.bipush 48, 2) := by decide +kernel
theorem dX1_bestMove_42 : decode cX1_bestMove 42 = .ok (.if_icmp .ge 50, 3) := by decide +kernel
theorem dX1_bestMove_45 : decode cX1_bestMove 45 = .ok (.aload_n 1, 1) := by decide +kernel
theorem dX1_bestMove_46 : decode cX1_bestMove 46 = .ok (.getfield 70, 3) := by decide +kernel
theorem dX1_bestMove_49 : decode cX1_bestMove 49 = .ok (.iload 5, 2) := by decide +kernel
theorem dX1_bestMove_51 : decode cX1_bestMove 51 = .ok (.iload 7, 2) := by decide +kernel
theorem dX1_bestMove_53 : decode cX1_bestMove 53 = .ok (.iastore, 1) := by decide +kernel
theorem dX1_bestMove_54 : decode cX1_bestMove 54 = .ok (.aload_n 0, 1) := by decide +kernel
theorem dX1_bestMove_55 : decode cX1_bestMove 55 = .ok (.aload_n 1, 1) := by decide +kernel
theorem dX1_bestMove_56 : decode cX1_bestMove 56 = .ok (.aload_n 1, 1) := by decide +kernel
theorem dX1_bestMove_57 : decode cX1_bestMove 57 = .ok (.invokevirtual 26, 3) := by decide +kernel
theorem dX1_bestMove_60 : decode cX1_bestMove 60 = .ok (.iload_n 2, 1) := by decide +kernel
theorem dX1_bestMove_61 : decode cX1_bestMove 61 = .ok (.invokevirtual 45, 3) := by decide +kernel
theorem dX1_bestMove_64 : decode cX1_bestMove 64 = .ok (.istore 8, 2) := by decide +kernel
theorem dX1_bestMove_66 : decode cX1_bestMove 66 = .ok (.iload 8, 2) := by decide +kernel
theorem dX1_bestMove_68 : decode cX1_bestMove 68 = .ok (.iload 4, 2) := by decide +kernel
theorem dX1_bestMove_70 : decode cX1_bestMove 70 = .ok (.if_icmp .ge 16, 3) := by decide +kernel
theorem dX1_bestMove_73 : decode cX1_bestMove 73 = .ok (.bipush 100, 2) := by decide +kernel
theorem dX1_bestMove_75 : decode cX1_bestMove 75 = .ok (.iload 5, 2) := by decide +kernel
theorem dX1_bestMove_77 : decode cX1_bestMove 77 = .ok (.imul, 1) := by decide +kernel
theorem dX1_bestMove_78 : decode cX1_bestMove 78 = .ok (.iload 7, 2) := by decide +kernel
theorem dX1_bestMove_80 : decode cX1_bestMove 80 = .ok (.iadd, 1) := by decide +kernel
theorem dX1_bestMove_81 : decode cX1_bestMove 81 = .ok (.istore_n 3, 1) := by decide +kernel
theorem dX1_bestMove_82 : decode cX1_bestMove 82 = .ok (.iload 8, 2) := by decide +kernel
theorem dX1_bestMove_84 : decode cX1_bestMove 84 = .ok (.istore 4, 2) := by decide +kernel
theorem dX1_bestMove_86 : decode cX1_bestMove 86 = .ok (.iinc 7 1, 3) := by decide +kernel
theorem dX1_bestMove_89 : decode cX1_bestMove 89 = .ok (.goto (-51), 3) := by decide +kernel
theorem dX1_bestMove_92 : decode cX1_bestMove 92 = .ok (.aload_n 1, 1) := by decide +kernel
theorem dX1_bestMove_93 : decode cX1_bestMove 93 = .ok (.getfield 70, 3) := by decide +kernel
theorem dX1_bestMove_96 : decode cX1_bestMove 96 = .ok (.iload 5, 2) := by decide +kernel
theorem dX1_bestMove_98 : decode cX1_bestMove 98 = .ok (.iload 6, 2) := by decide +kernel
theorem dX1_bestMove_100 : decode cX1_bestMove 100 = .ok (.iastore, 1) := by decide +kernel
theorem dX1_bestMove_101 : decode cX1_bestMove 101 = .ok (.iinc 5 1, 3) := by decide +kernel
theorem dX1_bestMove_104 : decode cX1_bestMove 104 = .ok (.goto (-87), 3) := by decide +kernel
theorem dX1_bestMove_107 : decode cX1_bestMove 107 = .ok (.iload_n 3, 1) := by decide +kernel
theorem dX1_bestMove_108 : decode cX1_bestMove 108 = .ok (.ireturn, 1) := by decide +kernel
theorem dX1_restingPairs_0 : decode cX1_restingPairs 0 = .ok (.iconst 0, 1) := by decide +kernel
theorem dX1_restingPairs_1 : decode cX1_restingPairs 1 = .ok (.istore 4, 2) := by decide +kernel
theorem dX1_restingPairs_3 : decode cX1_restingPairs 3 = .ok (.iload 4, 2) := by decide +kernel
theorem dX1_restingPairs_5 : decode cX1_restingPairs 5 = .ok (.bipush 6, 2) := by decide +kernel
theorem dX1_restingPairs_7 : decode cX1_restingPairs 7 = .ok (.if_icmp .ge 29, 3) := by decide +kernel
theorem dX1_restingPairs_10 : decode cX1_restingPairs 10 = .ok (.aload_n 0, 1) := by decide +kernel
theorem dX1_restingPairs_11 : decode cX1_restingPairs 11 = .ok (.getfield 18, 3) := by decide +kernel
theorem dX1_restingPairs_14 : decode cX1_restingPairs 14 = .ok (.iload 4, 2) := by decide +kernel
theorem dX1_restingPairs_16 : decode cX1_restingPairs 16 = .ok (.aload_n 0, 1) := by decide +kernel
theorem dX1_restingPairs_17 : decode cX1_restingPairs 17 = .ok (.aload_n 1, 1) := by decide +kernel
theorem dX1_restingPairs_18 : decode cX1_restingPairs 18 = .ok (.aload_n 1, 1) := by decide +kernel
theorem dX1_restingPairs_19 : decode cX1_restingPairs 19 = .ok (.invokevirtual 26, 3) := by decide +kernel
theorem dX1_restingPairs_22 : decode cX1_restingPairs 22 = .ok (.iload_n 2, 1) := by decide +kernel
theorem dX1_restingPairs_23 : decode cX1_restingPairs 23 = .ok (.iload 4, 2) := by decide +kernel
theorem dX1_restingPairs_25 : decode cX1_restingPairs 25 = .ok (.iadd, 1) := by decide +kernel
theorem dX1_restingPairs_26 : decode cX1_restingPairs 26 = .ok (.invokevirtual 45, 3) := by decide +kernel
theorem dX1_restingPairs_29 : decode cX1_restingPairs 29 = .ok (.iastore, 1) := by decide +kernel
theorem dX1_restingPairs_30 : decode cX1_restingPairs 30 = .ok (.iinc 4 1, 3) := by decide +kernel
theorem dX1_restingPairs_33 : decode cX1_restingPairs 33 = .ok (.goto (-30), 3) := by decide +kernel
theorem dX1_restingPairs_36 : decode cX1_restingPairs 36 = .ok (.iconst 0, 1) := by decide +kernel
theorem dX1_restingPairs_37 : decode cX1_restingPairs 37 = .ok (.istore 4, 2) := by decide +kernel
theorem dX1_restingPairs_39 : decode cX1_restingPairs 39 = .ok (.iconst (-1), 1) := by decide +kernel
theorem dX1_restingPairs_40 : decode cX1_restingPairs 40 = .ok (.istore 5, 2) := by decide +kernel
theorem dX1_restingPairs_42 : decode cX1_restingPairs 42 = .ok (.iconst 0, 1) := by decide +kernel
theorem dX1_restingPairs_43 : decode cX1_restingPairs 43 = .ok (.istore 6, 2) := by decide +kernel
theorem dX1_restingPairs_45 : decode cX1_restingPairs 45 = .ok (.iload 6, 2) := by decide +kernel
theorem dX1_restingPairs_47 : decode cX1_restingPairs 47 = .ok (.bipush 6, 2) := by decide +kernel
theorem dX1_restingPairs_49 : decode cX1_restingPairs 49 = .ok (.if_icmp .ge 70, 3) := by decide +kernel
theorem dX1_restingPairs_52 : decode cX1_restingPairs 52 = .ok (.iconst 0, 1) := by decide +kernel
theorem dX1_restingPairs_53 : decode cX1_restingPairs 53 = .ok (.istore 7, 2) := by decide +kernel
theorem dX1_restingPairs_55 : decode cX1_restingPairs 55 = .ok (.iload 7, 2) := by decide +kernel
theorem dX1_restingPairs_57 : decode cX1_restingPairs 57 = .ok (.bipush 6, 2) := by decide +kernel
theorem dX1_restingPairs_59 : decode cX1_restingPairs 59 = .ok (.if_icmp .ge 54, 3) := by decide +kernel
theorem dX1_restingPairs_62 : decode cX1_restingPairs 62 = .ok (.aload_n 0, 1) := by decide +kernel
theorem dX1_restingPairs_63 : decode cX1_restingPairs 63 = .ok (.iload 6, 2) := by decide +kernel
theorem dX1_restingPairs_65 : decode cX1_restingPairs 65 = .ok (.iload 7, 2) := by decide +kernel
theorem dX1_restingPairs_67 : decode cX1_restingPairs 67 = .ok (.invokevirtual 73, 3) := by decide +kernel
theorem dX1_restingPairs_70 : decode cX1_restingPairs 70 = .ok (.ifCond .eq 37, 3) := by decide +kernel
theorem dX1_restingPairs_73 : decode cX1_restingPairs 73 = .ok (.aload_n 0, 1) := by decide +kernel
theorem dX1_restingPairs_74 : decode cX1_restingPairs 74 = .ok (.iload 7, 2) := by decide +kernel
theorem dX1_restingPairs_76 : decode cX1_restingPairs 76 = .ok (.iload 6, 2) := by decide +kernel
theorem dX1_restingPairs_78 : decode cX1_restingPairs 78 = .ok (.invokevirtual 73, 3) := by decide +kernel
theorem dX1_restingPairs_81 : decode cX1_restingPairs 81 = .ok (.ifCond .eq 26, 3) := by decide +kernel
theorem dX1_restingPairs_84 : decode cX1_restingPairs 84 = .ok (.iload 4, 2) := by decide +kernel
theorem dX1_restingPairs_86 : decode cX1_restingPairs 86 = .ok (.ifCond .ne 14, 3) := by decide +kernel
theorem dX1_restingPairs_89 : decode cX1_restingPairs 89 = .ok (.bipush 10, 2) := by decide +kernel
theorem dX1_restingPairs_91 : decode cX1_restingPairs 91 = .ok (.iload 6, 2) := by decide +kernel
theorem dX1_restingPairs_93 : decode cX1_restingPairs 93 = .ok (.imul, 1) := by decide +kernel
theorem dX1_restingPairs_94 : decode cX1_restingPairs 94 = .ok (.iload 7, 2) := by decide +kernel
theorem dX1_restingPairs_96 : decode cX1_restingPairs 96 = .ok (.iadd, 1) := by decide +kernel
theorem dX1_restingPairs_97 : decode cX1_restingPairs 97 = .ok (.goto 5, 3) := by decide +kernel
theorem dX1_restingPairs_100 : decode cX1_restingPairs 100 = .ok (.iload 5, 2) := by decide +kernel
theorem dX1_restingPairs_102 : decode cX1_restingPairs 102 = .ok (.istore 5, 2) := by decide +kernel
theorem dX1_restingPairs_104 : decode cX1_restingPairs 104 = .ok (.iinc 4 1, 3) := by decide +kernel
theorem dX1_restingPairs_107 : decode cX1_restingPairs 107 = .ok (.iinc 7 1, 3) := by decide +kernel
theorem dX1_restingPairs_110 : decode cX1_restingPairs 110 = .ok (.goto (-55), 3) := by decide +kernel
theorem dX1_restingPairs_113 : decode cX1_restingPairs 113 = .ok (.iinc 6 1, 3) := by decide +kernel
theorem dX1_restingPairs_116 : decode cX1_restingPairs 116 = .ok (.goto (-71), 3) := by decide +kernel
theorem dX1_restingPairs_119 : decode cX1_restingPairs 119 = .ok (.iload_n 3, 1) := by decide +kernel
theorem dX1_restingPairs_120 : decode cX1_restingPairs 120 = .ok (.ifCond .ne 8, 3) := by decide +kernel
theorem dX1_restingPairs_123 : decode cX1_restingPairs 123 = .ok (.iload 4, 2) := by decide +kernel
theorem dX1_restingPairs_125 : decode cX1_restingPairs 125 = .ok (.goto 5, 3) := by decide +kernel
theorem dX1_restingPairs_128 : decode cX1_restingPairs 128 = .ok (.iload 5, 2) := by decide +kernel
theorem dX1_restingPairs_130 : decode cX1_restingPairs 130 = .ok (.ireturn, 1) := by decide +kernel
theorem dX1_isBestAgainst_0 : decode cX1_isBestAgainst 0 = .ok (.aload_n 0, 1) := by decide +kernel
theorem dX1_isBestAgainst_1 : decode cX1_isBestAgainst 1 = .ok (.iload_n 1, 1) := by decide +kernel
theorem dX1_isBestAgainst_2 : decode cX1_isBestAgainst 2 = .ok (.iload_n 2, 1) := by decide +kernel
theorem dX1_isBestAgainst_3 : decode cX1_isBestAgainst 3 = .ok (.invokevirtual 77, 3) := by decide +kernel
theorem dX1_isBestAgainst_6 : decode cX1_isBestAgainst 6 = .ok (.istore_n 3, 1) := by decide +kernel
theorem dX1_isBestAgainst_7 : decode cX1_isBestAgainst 7 = .ok (.iconst 0, 1) := by decide +kernel
theorem dX1_isBestAgainst_8 : decode cX1_isBestAgainst 8 = .ok (.istore 4, 2) := by decide +kernel
theorem dX1_isBestAgainst_10 : decode cX1_isBestAgainst 10 = .ok (.iload 4, 2) := by decide +kernel
theorem dX1_isBestAgainst_12 : decode cX1_isBestAgainst 12 = .ok (.bipush 6, 2) := by decide +kernel
theorem dX1_isBestAgainst_14 : decode cX1_isBestAgainst 14 = .ok (.if_icmp .ge 22, 3) := by decide +kernel
theorem dX1_isBestAgainst_17 : decode cX1_isBestAgainst 17 = .ok (.aload_n 0, 1) := by decide +kernel
theorem dX1_isBestAgainst_18 : decode cX1_isBestAgainst 18 = .ok (.iload 4, 2) := by decide +kernel
theorem dX1_isBestAgainst_20 : decode cX1_isBestAgainst 20 = .ok (.iload_n 2, 1) := by decide +kernel
theorem dX1_isBestAgainst_21 : decode cX1_isBestAgainst 21 = .ok (.invokevirtual 77, 3) := by decide +kernel
theorem dX1_isBestAgainst_24 : decode cX1_isBestAgainst 24 = .ok (.iload_n 3, 1) := by decide +kernel
theorem dX1_isBestAgainst_25 : decode cX1_isBestAgainst 25 = .ok (.if_icmp .le 5, 3) := by decide +kernel
theorem dX1_isBestAgainst_28 : decode cX1_isBestAgainst 28 = .ok (.iconst 0, 1) := by decide +kernel
theorem dX1_isBestAgainst_29 : decode cX1_isBestAgainst 29 = .ok (.ireturn, 1) := by decide +kernel
theorem dX1_isBestAgainst_30 : decode cX1_isBestAgainst 30 = .ok (.iinc 4 1, 3) := by decide +kernel
theorem dX1_isBestAgainst_33 : decode cX1_isBestAgainst 33 = .ok (.goto (-23), 3) := by decide +kernel
theorem dX1_isBestAgainst_36 : decode cX1_isBestAgainst 36 = .ok (.iconst 1, 1) := by decide +kernel
theorem dX1_isBestAgainst_37 : decode cX1_isBestAgainst 37 = .ok (.ireturn, 1) := by decide +kernel
theorem dX1_getsAgainst_0 : decode cX1_getsAgainst 0 = .ok (.aload_n 0, 1) := by decide +kernel
theorem dX1_getsAgainst_1 : decode cX1_getsAgainst 1 = .ok (.getfield 18, 3) := by decide +kernel
theorem dX1_getsAgainst_4 : decode cX1_getsAgainst 4 = .ok (.iload_n 1, 1) := by decide +kernel
theorem dX1_getsAgainst_5 : decode cX1_getsAgainst 5 = .ok (.iaload, 1) := by decide +kernel
theorem dX1_getsAgainst_6 : decode cX1_getsAgainst 6 = .ok (.bipush 61, 2) := by decide +kernel
theorem dX1_getsAgainst_8 : decode cX1_getsAgainst 8 = .ok (.if_icmp .ne 5, 3) := by decide +kernel
theorem dX1_getsAgainst_11 : decode cX1_getsAgainst 11 = .ok (.iconst 0, 1) := by decide +kernel
theorem dX1_getsAgainst_12 : decode cX1_getsAgainst 12 = .ok (.ireturn, 1) := by decide +kernel
theorem dX1_getsAgainst_13 : decode cX1_getsAgainst 13 = .ok (.iload_n 1, 1) := by decide +kernel
theorem dX1_getsAgainst_14 : decode cX1_getsAgainst 14 = .ok (.iload_n 2, 1) := by decide +kernel
theorem dX1_getsAgainst_15 : decode cX1_getsAgainst 15 = .ok (.if_icmp .le 14, 3) := by decide +kernel
theorem dX1_getsAgainst_18 : decode cX1_getsAgainst 18 = .ok (.iload_n 1, 1) := by decide +kernel
theorem dX1_getsAgainst_19 : decode cX1_getsAgainst 19 = .ok (.iload_n 2, 1) := by decide +kernel
theorem dX1_getsAgainst_20 : decode cX1_getsAgainst 20 = .ok (.isub, 1) := by decide +kernel
theorem dX1_getsAgainst_21 : decode cX1_getsAgainst 21 = .ok (.iconst 2, 1) := by decide +kernel
theorem dX1_getsAgainst_22 : decode cX1_getsAgainst 22 = .ok (.if_icmp .gt 7, 3) := by decide +kernel
theorem dX1_getsAgainst_25 : decode cX1_getsAgainst 25 = .ok (.iconst 1, 1) := by decide +kernel
theorem dX1_getsAgainst_26 : decode cX1_getsAgainst 26 = .ok (.goto 4, 3) := by decide +kernel
theorem dX1_getsAgainst_29 : decode cX1_getsAgainst 29 = .ok (.iconst 0, 1) := by decide +kernel
theorem dX1_getsAgainst_30 : decode cX1_getsAgainst 30 = .ok (.istore_n 3, 1) := by decide +kernel
theorem dX1_getsAgainst_31 : decode cX1_getsAgainst 31 = .ok (.bipush 100, 2) := by decide +kernel
theorem dX1_getsAgainst_33 : decode cX1_getsAgainst 33 = .ok (.aload_n 0, 1) := by decide +kernel
theorem dX1_getsAgainst_34 : decode cX1_getsAgainst 34 = .ok (.getfield 18, 3) := by decide +kernel
theorem dX1_getsAgainst_37 : decode cX1_getsAgainst 37 = .ok (.iload_n 1, 1) := by decide +kernel
theorem dX1_getsAgainst_38 : decode cX1_getsAgainst 38 = .ok (.iaload, 1) := by decide +kernel
theorem dX1_getsAgainst_39 : decode cX1_getsAgainst 39 = .ok (.isub, 1) := by decide +kernel
theorem dX1_getsAgainst_40 : decode cX1_getsAgainst 40 = .ok (.iload_n 3, 1) := by decide +kernel
theorem dX1_getsAgainst_41 : decode cX1_getsAgainst 41 = .ok (.ifCond .eq 7, 3) := by decide +kernel
theorem dX1_getsAgainst_44 : decode cX1_getsAgainst 44 = .ok (.iconst 4, 1) := by decide +kernel
theorem dX1_getsAgainst_45 : decode cX1_getsAgainst 45 = .ok (.goto 4, 3) := by decide +kernel
theorem dX1_getsAgainst_48 : decode cX1_getsAgainst 48 = .ok (.iconst 0, 1) := by decide +kernel
theorem dX1_getsAgainst_49 : decode cX1_getsAgainst 49 = .ok (.isub, 1) := by decide +kernel
theorem dX1_getsAgainst_50 : decode cX1_getsAgainst 50 = .ok (.ireturn, 1) := by decide +kernel
theorem dX1_minutesOfDays_0 : decode cX1_minutesOfDays 0 = .ok (.iload_n 2, 1) := by decide +kernel
theorem dX1_minutesOfDays_1 : decode cX1_minutesOfDays 1 = .ok (.i2l, 1) := by decide +kernel
theorem dX1_minutesOfDays_2 : decode cX1_minutesOfDays 2 = .ok (.lstore 5, 2) := by decide +kernel
theorem dX1_minutesOfDays_4 : decode cX1_minutesOfDays 4 = .ok (.iconst 0, 1) := by decide +kernel
theorem dX1_minutesOfDays_5 : decode cX1_minutesOfDays 5 = .ok (.istore 7, 2) := by decide +kernel
theorem dX1_minutesOfDays_7 : decode cX1_minutesOfDays 7 = .ok (.iconst 0, 1) := by decide +kernel
theorem dX1_minutesOfDays_8 : decode cX1_minutesOfDays 8 = .ok (.istore 8, 2) := by decide +kernel
theorem dX1_minutesOfDays_10 : decode cX1_minutesOfDays 10 = .ok (.iload 8, 2) := by decide +kernel
theorem dX1_minutesOfDays_12 : decode cX1_minutesOfDays 12 = .ok (.iload_n 3, 1) := by decide +kernel
theorem dX1_minutesOfDays_13 : decode cX1_minutesOfDays 13 = .ok (.if_icmp .ge 85, 3) := by decide +kernel
theorem dX1_minutesOfDays_16 : decode cX1_minutesOfDays 16 = .ok (.iconst 0, 1) := by decide +kernel
theorem dX1_minutesOfDays_17 : decode cX1_minutesOfDays 17 = .ok (.istore 9, 2) := by decide +kernel
theorem dX1_minutesOfDays_19 : decode cX1_minutesOfDays 19 = .ok (.iconst 0, 1) := by decide +kernel
theorem dX1_minutesOfDays_20 : decode cX1_minutesOfDays 20 = .ok (.istore 10, 2) := by decide +kernel
theorem dX1_minutesOfDays_22 : decode cX1_minutesOfDays 22 = .ok (.iload 10, 2) := by decide +kernel
theorem dX1_minutesOfDays_24 : decode cX1_minutesOfDays 24 = .ok (.aload_n 1, 1) := by decide +kernel
theorem dX1_minutesOfDays_25 : decode cX1_minutesOfDays 25 = .ok (.getfield 67, 3) := by decide +kernel
theorem dX1_minutesOfDays_28 : decode cX1_minutesOfDays 28 = .ok (.if_icmp .ge 51, 3) := by decide +kernel
theorem dX1_minutesOfDays_31 : decode cX1_minutesOfDays 31 = .ok (.lload 5, 2) := by decide +kernel
theorem dX1_minutesOfDays_33 : decode cX1_minutesOfDays 33 = .ok (.ldc2_w 80, 3) := by decide +kernel
theorem dX1_minutesOfDays_36 : decode cX1_minutesOfDays 36 = .ok (.lmul, 1) := by decide +kernel
theorem dX1_minutesOfDays_37 : decode cX1_minutesOfDays 37 = .ok (.ldc2_w 82, 3) := by decide +kernel
theorem dX1_minutesOfDays_40 : decode cX1_minutesOfDays 40 = .ok (.ladd, 1) := by decide +kernel
theorem dX1_minutesOfDays_41 : decode cX1_minutesOfDays 41 = .ok (.ldc2_w 84, 3) := by decide +kernel
theorem dX1_minutesOfDays_44 : decode cX1_minutesOfDays 44 = .ok (.lrem, 1) := by decide +kernel
theorem dX1_minutesOfDays_45 : decode cX1_minutesOfDays 45 = .ok (.lstore 5, 2) := by decide +kernel
theorem dX1_minutesOfDays_47 : decode cX1_minutesOfDays 47 = .ok (.lload 5, 2) := by decide +kernel
theorem dX1_minutesOfDays_49 : decode cX1_minutesOfDays 49 = .ok (.ldc2_w 86, 3) := by decide +kernel
theorem dX1_minutesOfDays_52 : decode cX1_minutesOfDays 52 = .ok (.ldiv, 1) := by decide +kernel
theorem dX1_minutesOfDays_53 : decode cX1_minutesOfDays 53 = .ok (.ldc2_w 88, 3) := by decide +kernel
theorem dX1_minutesOfDays_56 : decode cX1_minutesOfDays 56 = .ok (.lrem, 1) := by decide +kernel
theorem dX1_minutesOfDays_57 : decode cX1_minutesOfDays 57 = .ok (.iload 4, 2) := by decide +kernel
theorem dX1_minutesOfDays_59 : decode cX1_minutesOfDays 59 = .ok (.i2l, 1) := by decide +kernel
theorem dX1_minutesOfDays_60 : decode cX1_minutesOfDays 60 = .ok (.lcmp, 1) := by decide +kernel
theorem dX1_minutesOfDays_61 : decode cX1_minutesOfDays 61 = .ok (.ifCond .lt 12, 3) := by decide +kernel
theorem dX1_minutesOfDays_64 : decode cX1_minutesOfDays 64 = .ok (.iload 9, 2) := by decide +kernel
theorem dX1_minutesOfDays_66 : decode cX1_minutesOfDays 66 = .ok (.iconst 1, 1) := by decide +kernel
theorem dX1_minutesOfDays_67 : decode cX1_minutesOfDays 67 = .ok (.iload 10, 2) := by decide +kernel
theorem dX1_minutesOfDays_69 : decode cX1_minutesOfDays 69 = .ok (.ishl, 1) := by decide +kernel
theorem dX1_minutesOfDays_70 : decode cX1_minutesOfDays 70 = .ok (.ior, 1) := by decide +kernel
theorem dX1_minutesOfDays_71 : decode cX1_minutesOfDays 71 = .ok (.istore 9, 2) := by decide +kernel
theorem dX1_minutesOfDays_73 : decode cX1_minutesOfDays 73 = .ok (.iinc 10 1, 3) := by decide +kernel
theorem dX1_minutesOfDays_76 : decode cX1_minutesOfDays 76 = .ok (.goto (-54), 3) := by decide +kernel
theorem dX1_minutesOfDays_79 : decode cX1_minutesOfDays 79 = .ok (.iload 7, 2) := by decide +kernel
theorem dX1_minutesOfDays_81 : decode cX1_minutesOfDays 81 = .ok (.aload_n 0, 1) := by decide +kernel
theorem dX1_minutesOfDays_82 : decode cX1_minutesOfDays 82 = .ok (.aload_n 1, 1) := by decide +kernel
theorem dX1_minutesOfDays_83 : decode cX1_minutesOfDays 83 = .ok (.iload 9, 2) := by decide +kernel
theorem dX1_minutesOfDays_85 : decode cX1_minutesOfDays 85 = .ok (.iconst 0, 1) := by decide +kernel
theorem dX1_minutesOfDays_86 : decode cX1_minutesOfDays 86 = .ok (.invokevirtual 45, 3) := by decide +kernel
theorem dX1_minutesOfDays_89 : decode cX1_minutesOfDays 89 = .ok (.iadd, 1) := by decide +kernel
theorem dX1_minutesOfDays_90 : decode cX1_minutesOfDays 90 = .ok (.istore 7, 2) := by decide +kernel
theorem dX1_minutesOfDays_92 : decode cX1_minutesOfDays 92 = .ok (.iinc 8 1, 3) := by decide +kernel
theorem dX1_minutesOfDays_95 : decode cX1_minutesOfDays 95 = .ok (.goto (-85), 3) := by decide +kernel
theorem dX1_minutesOfDays_98 : decode cX1_minutesOfDays 98 = .ok (.iload 7, 2) := by decide +kernel
theorem dX1_minutesOfDays_100 : decode cX1_minutesOfDays 100 = .ok (.ireturn, 1) := by decide +kernel
theorem dX2_init_0 : decode cX2_init 0 = .ok (.aload_n 0, 1) := by decide +kernel
theorem dX2_init_1 : decode cX2_init 1 = .ok (.invokespecial 3, 3) := by decide +kernel
theorem dX2_init_4 : decode cX2_init 4 = .ok (.return_, 1) := by decide +kernel
theorem dX2_highIn_0 : decode cX2_highIn 0 = .ok (.bipush 9, 2) := by decide +kernel
theorem dX2_highIn_2 : decode cX2_highIn 2 = .ok (.aload_n 0, 1) := by decide +kernel
theorem dX2_highIn_3 : decode cX2_highIn 3 = .ok (.iload_n 1, 1) := by decide +kernel
theorem dX2_highIn_4 : decode cX2_highIn 4 = .ok (.iload_n 2, 1) := by decide +kernel
theorem dX2_highIn_5 : decode cX2_highIn 5 = .ok (.invokespecial 9, 3) := by decide +kernel
theorem dX2_highIn_8 : decode cX2_highIn 8 = .ok (.iload_n 2, 1) := by decide +kernel
theorem dX2_highIn_9 : decode cX2_highIn 9 = .ok (.bipush 15, 2) := by decide +kernel
theorem dX2_highIn_11 : decode cX2_highIn 11 = .ok (.idiv, 1) := by decide +kernel
theorem dX2_highIn_12 : decode cX2_highIn 12 = .ok (.iadd, 1) := by decide +kernel
theorem dX2_highIn_13 : decode cX2_highIn 13 = .ok (.invokestatic 13, 3) := by decide +kernel
theorem dX2_highIn_16 : decode cX2_highIn 16 = .ok (.ireturn, 1) := by decide +kernel
theorem dX3_init_0 : decode cX3_init 0 = .ok (.aload_n 0, 1) := by decide +kernel
theorem dX3_init_1 : decode cX3_init 1 = .ok (.invokespecial 3, 3) := by decide +kernel
theorem dX3_init_4 : decode cX3_init 4 = .ok (.return_, 1) := by decide +kernel
theorem dX3_highIn_0 : decode cX3_highIn 0 = .ok (.bipush 9, 2) := by decide +kernel
theorem dX3_highIn_2 : decode cX3_highIn 2 = .ok (.aload_n 0, 1) := by decide +kernel
theorem dX3_highIn_3 : decode cX3_highIn 3 = .ok (.iload_n 1, 1) := by decide +kernel
theorem dX3_highIn_4 : decode cX3_highIn 4 = .ok (.iload_n 2, 1) := by decide +kernel
theorem dX3_highIn_5 : decode cX3_highIn 5 = .ok (.invokespecial 9, 3) := by decide +kernel
theorem dX3_highIn_8 : decode cX3_highIn 8 = .ok (.iconst 2, 1) := by decide +kernel
theorem dX3_highIn_9 : decode cX3_highIn 9 = .ok (.iadd, 1) := by decide +kernel
theorem dX3_highIn_10 : decode cX3_highIn 10 = .ok (.invokestatic 13, 3) := by decide +kernel
theorem dX3_highIn_13 : decode cX3_highIn 13 = .ok (.ireturn, 1) := by decide +kernel
theorem dX4_init_0 : decode cX4_init 0 = .ok (.aload_n 0, 1) := by decide +kernel
theorem dX4_init_1 : decode cX4_init 1 = .ok (.invokespecial 3, 3) := by decide +kernel
theorem dX4_init_4 : decode cX4_init 4 = .ok (.aload_n 0, 1) := by decide +kernel
theorem dX4_init_5 : decode cX4_init 5 = .ok (.new 9, 3) := by decide +kernel
theorem dX4_init_8 : decode cX4_init 8 = .ok (.dup, 1) := by decide +kernel
theorem dX4_init_9 : decode cX4_init 9 = .ok (.invokespecial 11, 3) := by decide +kernel
theorem dX4_init_12 : decode cX4_init 12 = .ok (.putfield 12, 3) := by decide +kernel
theorem dX4_init_15 : decode cX4_init 15 = .ok (.aload_n 0, 1) := by decide +kernel
theorem dX4_init_16 : decode cX4_init 16 = .ok (.new 18, 3) := by decide +kernel
theorem dX4_init_19 : decode cX4_init 19 = .ok (.dup, 1) := by decide +kernel
theorem dX4_init_20 : decode cX4_init 20 = .ok (.invokespecial 20, 3) := by decide +kernel
theorem dX4_init_23 : decode cX4_init 23 = .ok (.putfield 21, 3) := by decide +kernel
theorem dX4_init_26 : decode cX4_init 26 = .ok (.aload_n 0, 1) := by decide +kernel
theorem dX4_init_27 : decode cX4_init 27 = .ok (.new 24, 3) := by decide +kernel
theorem dX4_init_30 : decode cX4_init 30 = .ok (.dup, 1) := by decide +kernel
theorem dX4_init_31 : decode cX4_init 31 = .ok (.invokespecial 26, 3) := by decide +kernel
theorem dX4_init_34 : decode cX4_init 34 = .ok (.putfield 27, 3) := by decide +kernel
theorem dX4_init_37 : decode cX4_init 37 = .ok (.aload_n 0, 1) := by decide +kernel
theorem dX4_init_38 : decode cX4_init 38 = .ok (.new 30, 3) := by decide +kernel
theorem dX4_init_41 : decode cX4_init 41 = .ok (.dup, 1) := by decide +kernel
theorem dX4_init_42 : decode cX4_init 42 = .ok (.invokespecial 32, 3) := by decide +kernel
theorem dX4_init_45 : decode cX4_init 45 = .ok (.putfield 33, 3) := by decide +kernel
theorem dX4_init_48 : decode cX4_init 48 = .ok (.aload_n 0, 1) := by decide +kernel
theorem dX4_init_49 : decode cX4_init 49 = .ok (.new 36, 3) := by decide +kernel
theorem dX4_init_52 : decode cX4_init 52 = .ok (.dup, 1) := by decide +kernel
theorem dX4_init_53 : decode cX4_init 53 = .ok (.invokespecial 38, 3) := by decide +kernel
theorem dX4_init_56 : decode cX4_init 56 = .ok (.putfield 39, 3) := by decide +kernel
theorem dX4_init_59 : decode cX4_init 59 = .ok (.aload_n 0, 1) := by decide +kernel
theorem dX4_init_60 : decode cX4_init 60 = .ok (.new 42, 3) := by decide +kernel
theorem dX4_init_63 : decode cX4_init 63 = .ok (.dup, 1) := by decide +kernel
theorem dX4_init_64 : decode cX4_init 64 = .ok (.invokespecial 44, 3) := by decide +kernel
theorem dX4_init_67 : decode cX4_init 67 = .ok (.putfield 45, 3) := by decide +kernel
theorem dX4_init_70 : decode cX4_init 70 = .ok (.aload_n 0, 1) := by decide +kernel
theorem dX4_init_71 : decode cX4_init 71 = .ok (.bipush 6, 2) := by decide +kernel
theorem dX4_init_73 : decode cX4_init 73 = .ok (.newarray .int, 2) := by decide +kernel
theorem dX4_init_75 : decode cX4_init 75 = .ok (.putfield 48, 3) := by decide +kernel
theorem dX4_init_78 : decode cX4_init 78 = .ok (.aload_n 0, 1) := by decide +kernel
theorem dX4_init_79 : decode cX4_init 79 = .ok (.bipush 6, 2) := by decide +kernel
theorem dX4_init_81 : decode cX4_init 81 = .ok (.newarray .int, 2) := by decide +kernel
theorem dX4_init_83 : decode cX4_init 83 = .ok (.putfield 52, 3) := by decide +kernel
theorem dX4_init_86 : decode cX4_init 86 = .ok (.return_, 1) := by decide +kernel
theorem dX4_kindOf_0 : decode cX4_kindOf 0 = .ok (.iload_n 1, 1) := by decide +kernel
theorem dX4_kindOf_1 : decode cX4_kindOf 1 = .ok (.tableswitch 60 1 5 #[35, 40, 45, 50, 55], 35) := by decide +kernel
theorem dX4_kindOf_36 : decode cX4_kindOf 36 = .ok (.aload_n 0, 1) := by decide +kernel
theorem dX4_kindOf_37 : decode cX4_kindOf 37 = .ok (.getfield 21, 3) := by decide +kernel
theorem dX4_kindOf_40 : decode cX4_kindOf 40 = .ok (.areturn, 1) := by decide +kernel
theorem dX4_kindOf_41 : decode cX4_kindOf 41 = .ok (.aload_n 0, 1) := by decide +kernel
theorem dX4_kindOf_42 : decode cX4_kindOf 42 = .ok (.getfield 27, 3) := by decide +kernel
theorem dX4_kindOf_45 : decode cX4_kindOf 45 = .ok (.areturn, 1) := by decide +kernel
theorem dX4_kindOf_46 : decode cX4_kindOf 46 = .ok (.aload_n 0, 1) := by decide +kernel
theorem dX4_kindOf_47 : decode cX4_kindOf 47 = .ok (.getfield 33, 3) := by decide +kernel
theorem dX4_kindOf_50 : decode cX4_kindOf 50 = .ok (.areturn, 1) := by decide +kernel
theorem dX4_kindOf_51 : decode cX4_kindOf 51 = .ok (.aload_n 0, 1) := by decide +kernel
theorem dX4_kindOf_52 : decode cX4_kindOf 52 = .ok (.getfield 39, 3) := by decide +kernel
theorem dX4_kindOf_55 : decode cX4_kindOf 55 = .ok (.areturn, 1) := by decide +kernel
theorem dX4_kindOf_56 : decode cX4_kindOf 56 = .ok (.aload_n 0, 1) := by decide +kernel
theorem dX4_kindOf_57 : decode cX4_kindOf 57 = .ok (.getfield 45, 3) := by decide +kernel
theorem dX4_kindOf_60 : decode cX4_kindOf 60 = .ok (.areturn, 1) := by decide +kernel
theorem dX4_kindOf_61 : decode cX4_kindOf 61 = .ok (.aload_n 0, 1) := by decide +kernel
theorem dX4_kindOf_62 : decode cX4_kindOf 62 = .ok (.getfield 12, 3) := by decide +kernel
theorem dX4_kindOf_65 : decode cX4_kindOf 65 = .ok (.areturn, 1) := by decide +kernel
theorem dX4_see_0 : decode cX4_see 0 = .ok (.iconst 0, 1) := by decide +kernel
theorem dX4_see_1 : decode cX4_see 1 = .ok (.istore_n 3, 1) := by decide +kernel
theorem dX4_see_2 : decode cX4_see 2 = .ok (.iload_n 3, 1) := by decide +kernel
theorem dX4_see_3 : decode cX4_see 3 = .ok (.aload_n 1, 1) := by decide +kernel
theorem dX4_see_4 : decode cX4_see 4 = .ok (.getfield 55, 3) := by decide +kernel
theorem dX4_see_7 : decode cX4_see 7 = .ok (.if_icmp .ge 77, 3) := by decide +kernel
theorem dX4_see_10 : decode cX4_see 10 = .ok (.aload_n 0, 1) := by decide +kernel
theorem dX4_see_11 : decode cX4_see 11 = .ok (.aload_n 1, 1) := by decide +kernel
theorem dX4_see_12 : decode cX4_see 12 = .ok (.getfield 61, 3) := by decide +kernel
theorem dX4_see_15 : decode cX4_see 15 = .ok (.iload_n 3, 1) := by decide +kernel
theorem dX4_see_16 : decode cX4_see 16 = .ok (.iaload, 1) := by decide +kernel
theorem dX4_see_17 : decode cX4_see 17 = .ok (.invokevirtual 64, 3) := by decide +kernel
theorem dX4_see_20 : decode cX4_see 20 = .ok (.astore 4, 2) := by decide +kernel
theorem dX4_see_22 : decode cX4_see 22 = .ok (.aload_n 0, 1) := by decide +kernel
theorem dX4_see_23 : decode cX4_see 23 = .ok (.getfield 48, 3) := by decide +kernel
theorem dX4_see_26 : decode cX4_see 26 = .ok (.iload_n 3, 1) := by decide +kernel
theorem dX4_see_27 : decode cX4_see 27 = .ok (.aload 4, 2) := by decide +kernel
theorem dX4_see_29 : decode cX4_see 29 = .ok (.aload_n 1, 1) := by decide +kernel
theorem dX4_see_30 : decode cX4_see 30 = .ok (.getfield 68, 3) := by decide +kernel
theorem dX4_see_33 : decode cX4_see 33 = .ok (.iload_n 3, 1) := by decide +kernel
theorem dX4_see_34 : decode cX4_see 34 = .ok (.iaload, 1) := by decide +kernel
theorem dX4_see_35 : decode cX4_see 35 = .ok (.aload_n 1, 1) := by decide +kernel
theorem dX4_see_36 : decode cX4_see 36 = .ok (.getfield 71, 3) := by decide +kernel
theorem dX4_see_39 : decode cX4_see 39 = .ok (.iload_n 3, 1) := by decide +kernel
theorem dX4_see_40 : decode cX4_see 40 = .ok (.iaload, 1) := by decide +kernel
theorem dX4_see_41 : decode cX4_see 41 = .ok (.iload_n 2, 1) := by decide +kernel
theorem dX4_see_42 : decode cX4_see 42 = .ok (.invokevirtual 74, 3) := by decide +kernel
theorem dX4_see_45 : decode cX4_see 45 = .ok (.iastore, 1) := by decide +kernel
theorem dX4_see_46 : decode cX4_see 46 = .ok (.aload_n 0, 1) := by decide +kernel
theorem dX4_see_47 : decode cX4_see 47 = .ok (.getfield 52, 3) := by decide +kernel
theorem dX4_see_50 : decode cX4_see 50 = .ok (.iload_n 3, 1) := by decide +kernel
theorem dX4_see_51 : decode cX4_see 51 = .ok (.iload_n 2, 1) := by decide +kernel
theorem dX4_see_52 : decode cX4_see 52 = .ok (.aload_n 1, 1) := by decide +kernel
theorem dX4_see_53 : decode cX4_see 53 = .ok (.getfield 78, 3) := by decide +kernel
theorem dX4_see_56 : decode cX4_see 56 = .ok (.iload_n 3, 1) := by decide +kernel
theorem dX4_see_57 : decode cX4_see 57 = .ok (.iaload, 1) := by decide +kernel
theorem dX4_see_58 : decode cX4_see 58 = .ok (.if_icmp .ge 18, 3) := by decide +kernel
theorem dX4_see_61 : decode cX4_see 61 = .ok (.aload 4, 2) := by decide +kernel
theorem dX4_see_63 : decode cX4_see 63 = .ok (.aload_n 1, 1) := by decide +kernel
theorem dX4_see_64 : decode cX4_see 64 = .ok (.getfield 81, 3) := by decide +kernel
theorem dX4_see_67 : decode cX4_see 67 = .ok (.iload_n 3, 1) := by decide +kernel
theorem dX4_see_68 : decode cX4_see 68 = .ok (.iaload, 1) := by decide +kernel
theorem dX4_see_69 : decode cX4_see 69 = .ok (.iload_n 2, 1) := by decide +kernel
theorem dX4_see_70 : decode cX4_see 70 = .ok (.invokevirtual 84, 3) := by decide +kernel
theorem dX4_see_73 : decode cX4_see 73 = .ok (.goto 4, 3) := by decide +kernel
theorem dX4_see_76 : decode cX4_see 76 = .ok (.iconst 0, 1) := by decide +kernel
theorem dX4_see_77 : decode cX4_see 77 = .ok (.iastore, 1) := by decide +kernel
theorem dX4_see_78 : decode cX4_see 78 = .ok (.iinc 3 1, 3) := by decide +kernel
theorem dX4_see_81 : decode cX4_see 81 = .ok (.goto (-79), 3) := by decide +kernel
theorem dX4_see_84 : decode cX4_see 84 = .ok (.return_, 1) := by decide +kernel
theorem dX4_limitIn_0 : decode cX4_limitIn 0 = .ok (.aload_n 1, 1) := by decide +kernel
theorem dX4_limitIn_1 : decode cX4_limitIn 1 = .ok (.getfield 88, 3) := by decide +kernel
theorem dX4_limitIn_4 : decode cX4_limitIn 4 = .ok (.iconst 1, 1) := by decide +kernel
theorem dX4_limitIn_5 : decode cX4_limitIn 5 = .ok (.if_icmp .ne 11, 3) := by decide +kernel
theorem dX4_limitIn_8 : decode cX4_limitIn 8 = .ok (.aload_n 0, 1) := by decide +kernel
theorem dX4_limitIn_9 : decode cX4_limitIn 9 = .ok (.aload_n 1, 1) := by decide +kernel
theorem dX4_limitIn_10 : decode cX4_limitIn 10 = .ok (.iload_n 2, 1) := by decide +kernel
theorem dX4_limitIn_11 : decode cX4_limitIn 11 = .ok (.iload_n 3, 1) := by decide +kernel
theorem dX4_limitIn_12 : decode cX4_limitIn 12 = .ok (.invokevirtual 91, 3) := by decide +kernel
theorem dX4_limitIn_15 : decode cX4_limitIn 15 = .ok (.ireturn, 1) := by decide +kernel
theorem dX4_limitIn_16 : decode cX4_limitIn 16 = .ok (.aload_n 0, 1) := by decide +kernel
theorem dX4_limitIn_17 : decode cX4_limitIn 17 = .ok (.aload_n 1, 1) := by decide +kernel
theorem dX4_limitIn_18 : decode cX4_limitIn 18 = .ok (.iload_n 2, 1) := by decide +kernel
theorem dX4_limitIn_19 : decode cX4_limitIn 19 = .ok (.iload_n 3, 1) := by decide +kernel
theorem dX4_limitIn_20 : decode cX4_limitIn 20 = .ok (.iconst (-1), 1) := by decide +kernel
theorem dX4_limitIn_21 : decode cX4_limitIn 21 = .ok (.invokevirtual 95, 3) := by decide +kernel
theorem dX4_limitIn_24 : decode cX4_limitIn 24 = .ok (.istore 4, 2) := by decide +kernel
theorem dX4_limitIn_26 : decode cX4_limitIn 26 = .ok (.iload 4, 2) := by decide +kernel
theorem dX4_limitIn_28 : decode cX4_limitIn 28 = .ok (.ldc 99, 2) := by decide +kernel
theorem dX4_limitIn_30 : decode cX4_limitIn 30 = .ok (.if_icmp .ne 6, 3) := by decide +kernel
theorem dX4_limitIn_33 : decode cX4_limitIn 33 = .ok (.bipush 9, 2) := by decide +kernel
theorem dX4_limitIn_35 : decode cX4_limitIn 35 = .ok (.ireturn, 1) := by decide +kernel
theorem dX4_limitIn_36 : decode cX4_limitIn 36 = .ok (.aload_n 1, 1) := by decide +kernel
theorem dX4_limitIn_37 : decode cX4_limitIn 37 = .ok (.getfield 88, 3) := by decide +kernel
theorem dX4_limitIn_40 : decode cX4_limitIn 40 = .ok (.ifCond .ne 9, 3) := by decide +kernel
theorem dX4_limitIn_43 : decode cX4_limitIn 43 = .ok (.iload 4, 2) := by decide +kernel
theorem dX4_limitIn_45 : decode cX4_limitIn 45 = .ok (.invokestatic 100, 3) := by decide +kernel
theorem dX4_limitIn_48 : decode cX4_limitIn 48 = .ok (.ireturn, 1) := by decide +kernel
theorem dX4_limitIn_49 : decode cX4_limitIn 49 = .ok (.aload_n 0, 1) := by decide +kernel
theorem dX4_limitIn_50 : decode cX4_limitIn 50 = .ok (.aload_n 1, 1) := by decide +kernel
theorem dX4_limitIn_51 : decode cX4_limitIn 51 = .ok (.iload_n 2, 1) := by decide +kernel
theorem dX4_limitIn_52 : decode cX4_limitIn 52 = .ok (.iload_n 3, 1) := by decide +kernel
theorem dX4_limitIn_53 : decode cX4_limitIn 53 = .ok (.iload 4, 2) := by decide +kernel
theorem dX4_limitIn_55 : decode cX4_limitIn 55 = .ok (.invokevirtual 95, 3) := by decide +kernel
theorem dX4_limitIn_58 : decode cX4_limitIn 58 = .ok (.istore 5, 2) := by decide +kernel
theorem dX4_limitIn_60 : decode cX4_limitIn 60 = .ok (.iload 5, 2) := by decide +kernel
theorem dX4_limitIn_62 : decode cX4_limitIn 62 = .ok (.ldc 99, 2) := by decide +kernel
theorem dX4_limitIn_64 : decode cX4_limitIn 64 = .ok (.if_icmp .ne 9, 3) := by decide +kernel
theorem dX4_limitIn_67 : decode cX4_limitIn 67 = .ok (.iload 4, 2) := by decide +kernel
theorem dX4_limitIn_69 : decode cX4_limitIn 69 = .ok (.invokestatic 100, 3) := by decide +kernel
theorem dX4_limitIn_72 : decode cX4_limitIn 72 = .ok (.ireturn, 1) := by decide +kernel
theorem dX4_limitIn_73 : decode cX4_limitIn 73 = .ok (.iload 4, 2) := by decide +kernel
theorem dX4_limitIn_75 : decode cX4_limitIn 75 = .ok (.invokestatic 100, 3) := by decide +kernel
theorem dX4_limitIn_78 : decode cX4_limitIn 78 = .ok (.iload 5, 2) := by decide +kernel
theorem dX4_limitIn_80 : decode cX4_limitIn 80 = .ok (.invokestatic 100, 3) := by decide +kernel
theorem dX4_limitIn_83 : decode cX4_limitIn 83 = .ok (.iadd, 1) := by decide +kernel
theorem dX4_limitIn_84 : decode cX4_limitIn 84 = .ok (.iconst 2, 1) := by decide +kernel
theorem dX4_limitIn_85 : decode cX4_limitIn 85 = .ok (.idiv, 1) := by decide +kernel
theorem dX4_limitIn_86 : decode cX4_limitIn 86 = .ok (.ireturn, 1) := by decide +kernel
theorem dX4_nearestChild_0 : decode cX4_nearestChild 0 = .ok (.aload_n 0, 1) := by decide +kernel
theorem dX4_nearestChild_1 : decode cX4_nearestChild 1 = .ok (.aload_n 1, 1) := by decide +kernel
theorem dX4_nearestChild_2 : decode cX4_nearestChild 2 = .ok (.aload_n 1, 1) := by decide +kernel
theorem dX4_nearestChild_3 : decode cX4_nearestChild 3 = .ok (.invokevirtual 104, 3) := by decide +kernel
theorem dX4_nearestChild_6 : decode cX4_nearestChild 6 = .ok (.iload_n 2, 1) := by decide +kernel
theorem dX4_nearestChild_7 : decode cX4_nearestChild 7 = .ok (.iconst (-1), 1) := by decide +kernel
theorem dX4_nearestChild_8 : decode cX4_nearestChild 8 = .ok (.invokevirtual 95, 3) := by decide +kernel
theorem dX4_nearestChild_11 : decode cX4_nearestChild 11 = .ok (.istore_n 3, 1) := by decide +kernel
theorem dX4_nearestChild_12 : decode cX4_nearestChild 12 = .ok (.iload_n 3, 1) := by decide +kernel
theorem dX4_nearestChild_13 : decode cX4_nearestChild 13 = .ok (.ldc 99, 2) := by decide +kernel
theorem dX4_nearestChild_15 : decode cX4_nearestChild 15 = .ok (.if_icmp .ne 7, 3) := by decide +kernel
theorem dX4_nearestChild_18 : decode cX4_nearestChild 18 = .ok (.iconst (-1), 1) := by decide +kernel
theorem dX4_nearestChild_19 : decode cX4_nearestChild 19 = .ok (.goto 7, 3) := by decide +kernel
theorem dX4_nearestChild_22 : decode cX4_nearestChild 22 = .ok (.iload_n 3, 1) := by decide +kernel
theorem dX4_nearestChild_23 : decode cX4_nearestChild 23 = .ok (.bipush 8, 2) := by decide +kernel
theorem dX4_nearestChild_25 : decode cX4_nearestChild 25 = .ok (.irem, 1) := by decide +kernel
theorem dX4_nearestChild_26 : decode cX4_nearestChild 26 = .ok (.ireturn, 1) := by decide +kernel
theorem dX4_outBetween_0 : decode cX4_outBetween 0 = .ok (.iconst 0, 1) := by decide +kernel
theorem dX4_outBetween_1 : decode cX4_outBetween 1 = .ok (.istore 4, 2) := by decide +kernel
theorem dX4_outBetween_3 : decode cX4_outBetween 3 = .ok (.iconst 0, 1) := by decide +kernel
theorem dX4_outBetween_4 : decode cX4_outBetween 4 = .ok (.istore 5, 2) := by decide +kernel
theorem dX4_outBetween_6 : decode cX4_outBetween 6 = .ok (.iload 5, 2) := by decide +kernel
theorem dX4_outBetween_8 : decode cX4_outBetween 8 = .ok (.aload_n 1, 1) := by decide +kernel
theorem dX4_outBetween_9 : decode cX4_outBetween 9 = .ok (.getfield 55, 3) := by decide +kernel
theorem dX4_outBetween_12 : decode cX4_outBetween 12 = .ok (.if_icmp .ge 50, 3) := by decide +kernel
theorem dX4_outBetween_15 : decode cX4_outBetween 15 = .ok (.aload_n 0, 1) := by decide +kernel
theorem dX4_outBetween_16 : decode cX4_outBetween 16 = .ok (.getfield 52, 3) := by decide +kernel
theorem dX4_outBetween_19 : decode cX4_outBetween 19 = .ok (.iload 5, 2) := by decide +kernel
theorem dX4_outBetween_21 : decode cX4_outBetween 21 = .ok (.iaload, 1) := by decide +kernel
theorem dX4_outBetween_22 : decode cX4_outBetween 22 = .ok (.ifCond .le 34, 3) := by decide +kernel
theorem dX4_outBetween_25 : decode cX4_outBetween 25 = .ok (.aload_n 0, 1) := by decide +kernel
theorem dX4_outBetween_26 : decode cX4_outBetween 26 = .ok (.getfield 48, 3) := by decide +kernel
theorem dX4_outBetween_29 : decode cX4_outBetween 29 = .ok (.iload 5, 2) := by decide +kernel
theorem dX4_outBetween_31 : decode cX4_outBetween 31 = .ok (.iaload, 1) := by decide +kernel
theorem dX4_outBetween_32 : decode cX4_outBetween 32 = .ok (.iload_n 2, 1) := by decide +kernel
theorem dX4_outBetween_33 : decode cX4_outBetween 33 = .ok (.if_icmp .lt 23, 3) := by decide +kernel
theorem dX4_outBetween_36 : decode cX4_outBetween 36 = .ok (.aload_n 0, 1) := by decide +kernel
theorem dX4_outBetween_37 : decode cX4_outBetween 37 = .ok (.getfield 48, 3) := by decide +kernel
theorem dX4_outBetween_40 : decode cX4_outBetween 40 = .ok (.iload 5, 2) := by decide +kernel
theorem dX4_outBetween_42 : decode cX4_outBetween 42 = .ok (.iaload, 1) := by decide +kernel
theorem dX4_outBetween_43 : decode cX4_outBetween 43 = .ok (.iload_n 3, 1) := by decide +kernel
theorem dX4_outBetween_44 : decode cX4_outBetween 44 = .ok (.if_icmp .gt 12, 3) := by decide +kernel
theorem dX4_outBetween_47 : decode cX4_outBetween 47 = .ok (.iload 4, 2) := by decide +kernel
theorem dX4_outBetween_49 : decode cX4_outBetween 49 = .ok (.iconst 1, 1) := by decide +kernel
theorem dX4_outBetween_50 : decode cX4_outBetween 50 = .ok (.iload 5, 2) := by decide +kernel
theorem dX4_outBetween_52 : decode cX4_outBetween 52 = .ok (.ishl, 1) := by decide +kernel
theorem dX4_outBetween_53 : decode cX4_outBetween 53 = .ok (.ior, 1) := by decide +kernel
theorem dX4_outBetween_54 : decode cX4_outBetween 54 = .ok (.istore 4, 2) := by decide +kernel
theorem dX4_outBetween_56 : decode cX4_outBetween 56 = .ok (.iinc 5 1, 3) := by decide +kernel
theorem dX4_outBetween_59 : decode cX4_outBetween 59 = .ok (.goto (-53), 3) := by decide +kernel
theorem dX4_outBetween_62 : decode cX4_outBetween 62 = .ok (.iload 4, 2) := by decide +kernel
theorem dX4_outBetween_64 : decode cX4_outBetween 64 = .ok (.ireturn, 1) := by decide +kernel
theorem dX4_nearestBehind_0 : decode cX4_nearestBehind 0 = .ok (.ldc 99, 2) := by decide +kernel
theorem dX4_nearestBehind_2 : decode cX4_nearestBehind 2 = .ok (.istore 5, 2) := by decide +kernel
theorem dX4_nearestBehind_4 : decode cX4_nearestBehind 4 = .ok (.iconst 0, 1) := by decide +kernel
theorem dX4_nearestBehind_5 : decode cX4_nearestBehind 5 = .ok (.istore 6, 2) := by decide +kernel
theorem dX4_nearestBehind_7 : decode cX4_nearestBehind 7 = .ok (.iload 6, 2) := by decide +kernel
theorem dX4_nearestBehind_9 : decode cX4_nearestBehind 9 = .ok (.aload_n 1, 1) := by decide +kernel
theorem dX4_nearestBehind_10 : decode cX4_nearestBehind 10 = .ok (.getfield 55, 3) := by decide +kernel
theorem dX4_nearestBehind_13 : decode cX4_nearestBehind 13 = .ok (.if_icmp .ge 70, 3) := by decide +kernel
theorem dX4_nearestBehind_16 : decode cX4_nearestBehind 16 = .ok (.aload_n 0, 1) := by decide +kernel
theorem dX4_nearestBehind_17 : decode cX4_nearestBehind 17 = .ok (.aload_n 1, 1) := by decide +kernel
theorem dX4_nearestBehind_18 : decode cX4_nearestBehind 18 = .ok (.iload_n 2, 1) := by decide +kernel
theorem dX4_nearestBehind_19 : decode cX4_nearestBehind 19 = .ok (.iload_n 3, 1) := by decide +kernel
theorem dX4_nearestBehind_20 : decode cX4_nearestBehind 20 = .ok (.iload 6, 2) := by decide +kernel
theorem dX4_nearestBehind_22 : decode cX4_nearestBehind 22 = .ok (.invokevirtual 108, 3) := by decide +kernel
theorem dX4_nearestBehind_25 : decode cX4_nearestBehind 25 = .ok (.ifCond .eq 52, 3) := by decide +kernel
theorem dX4_nearestBehind_28 : decode cX4_nearestBehind 28 = .ok (.aload_n 0, 1) := by decide +kernel
theorem dX4_nearestBehind_29 : decode cX4_nearestBehind 29 = .ok (.getfield 48, 3) := by decide +kernel
theorem dX4_nearestBehind_32 : decode cX4_nearestBehind 32 = .ok (.iload 6, 2) := by decide +kernel
theorem dX4_nearestBehind_34 : decode cX4_nearestBehind 34 = .ok (.iaload, 1) := by decide +kernel
theorem dX4_nearestBehind_35 : decode cX4_nearestBehind 35 = .ok (.iload_n 3, 1) := by decide +kernel
theorem dX4_nearestBehind_36 : decode cX4_nearestBehind 36 = .ok (.isub, 1) := by decide +kernel
theorem dX4_nearestBehind_37 : decode cX4_nearestBehind 37 = .ok (.invokestatic 112, 3) := by decide +kernel
theorem dX4_nearestBehind_40 : decode cX4_nearestBehind 40 = .ok (.bipush 16, 2) := by decide +kernel
theorem dX4_nearestBehind_42 : decode cX4_nearestBehind 42 = .ok (.imul, 1) := by decide +kernel
theorem dX4_nearestBehind_43 : decode cX4_nearestBehind 43 = .ok (.aload_n 0, 1) := by decide +kernel
theorem dX4_nearestBehind_44 : decode cX4_nearestBehind 44 = .ok (.getfield 52, 3) := by decide +kernel
theorem dX4_nearestBehind_47 : decode cX4_nearestBehind 47 = .ok (.iload 6, 2) := by decide +kernel
theorem dX4_nearestBehind_49 : decode cX4_nearestBehind 49 = .ok (.iaload, 1) := by decide +kernel
theorem dX4_nearestBehind_50 : decode cX4_nearestBehind 50 = .ok (.iadd, 1) := by decide +kernel
theorem dX4_nearestBehind_51 : decode cX4_nearestBehind 51 = .ok (.bipush 8, 2) := by decide +kernel
theorem dX4_nearestBehind_53 : decode cX4_nearestBehind 53 = .ok (.imul, 1) := by decide +kernel
theorem dX4_nearestBehind_54 : decode cX4_nearestBehind 54 = .ok (.iload 6, 2) := by decide +kernel
theorem dX4_nearestBehind_56 : decode cX4_nearestBehind 56 = .ok (.iadd, 1) := by decide +kernel
theorem dX4_nearestBehind_57 : decode cX4_nearestBehind 57 = .ok (.istore 7, 2) := by decide +kernel
theorem dX4_nearestBehind_59 : decode cX4_nearestBehind 59 = .ok (.iload 7, 2) := by decide +kernel
theorem dX4_nearestBehind_61 : decode cX4_nearestBehind 61 = .ok (.iload 4, 2) := by decide +kernel
theorem dX4_nearestBehind_63 : decode cX4_nearestBehind 63 = .ok (.if_icmp .le 14, 3) := by decide +kernel
theorem dX4_nearestBehind_66 : decode cX4_nearestBehind 66 = .ok (.iload 7, 2) := by decide +kernel
theorem dX4_nearestBehind_68 : decode cX4_nearestBehind 68 = .ok (.iload 5, 2) := by decide +kernel
theorem dX4_nearestBehind_70 : decode cX4_nearestBehind 70 = .ok (.if_icmp .ge 7, 3) := by decide +kernel
theorem dX4_nearestBehind_73 : decode cX4_nearestBehind 73 = .ok (.iload 7, 2) := by decide +kernel
theorem dX4_nearestBehind_75 : decode cX4_nearestBehind 75 = .ok (.istore 5, 2) := by decide +kernel
theorem dX4_nearestBehind_77 : decode cX4_nearestBehind 77 = .ok (.iinc 6 1, 3) := by decide +kernel
theorem dX4_nearestBehind_80 : decode cX4_nearestBehind 80 = .ok (.goto (-73), 3) := by decide +kernel
theorem dX4_nearestBehind_83 : decode cX4_nearestBehind 83 = .ok (.iload 5, 2) := by decide +kernel
theorem dX4_nearestBehind_85 : decode cX4_nearestBehind 85 = .ok (.ireturn, 1) := by decide +kernel
theorem dX4_lowestIn_0 : decode cX4_lowestIn 0 = .ok (.bipush 9, 2) := by decide +kernel
theorem dX4_lowestIn_2 : decode cX4_lowestIn 2 = .ok (.istore 4, 2) := by decide +kernel
theorem dX4_lowestIn_4 : decode cX4_lowestIn 4 = .ok (.iconst 0, 1) := by decide +kernel
theorem dX4_lowestIn_5 : decode cX4_lowestIn 5 = .ok (.istore 5, 2) := by decide +kernel
theorem dX4_lowestIn_7 : decode cX4_lowestIn 7 = .ok (.iload 5, 2) := by decide +kernel
theorem dX4_lowestIn_9 : decode cX4_lowestIn 9 = .ok (.aload_n 1, 1) := by decide +kernel
theorem dX4_lowestIn_10 : decode cX4_lowestIn 10 = .ok (.getfield 55, 3) := by decide +kernel
theorem dX4_lowestIn_13 : decode cX4_lowestIn 13 = .ok (.if_icmp .ge 35, 3) := by decide +kernel
theorem dX4_lowestIn_16 : decode cX4_lowestIn 16 = .ok (.aload_n 0, 1) := by decide +kernel
theorem dX4_lowestIn_17 : decode cX4_lowestIn 17 = .ok (.aload_n 1, 1) := by decide +kernel
theorem dX4_lowestIn_18 : decode cX4_lowestIn 18 = .ok (.iload_n 2, 1) := by decide +kernel
theorem dX4_lowestIn_19 : decode cX4_lowestIn 19 = .ok (.iload_n 3, 1) := by decide +kernel
theorem dX4_lowestIn_20 : decode cX4_lowestIn 20 = .ok (.iload 5, 2) := by decide +kernel
theorem dX4_lowestIn_22 : decode cX4_lowestIn 22 = .ok (.invokevirtual 108, 3) := by decide +kernel
theorem dX4_lowestIn_25 : decode cX4_lowestIn 25 = .ok (.ifCond .eq 17, 3) := by decide +kernel
theorem dX4_lowestIn_28 : decode cX4_lowestIn 28 = .ok (.iload 4, 2) := by decide +kernel
theorem dX4_lowestIn_30 : decode cX4_lowestIn 30 = .ok (.aload_n 0, 1) := by decide +kernel
theorem dX4_lowestIn_31 : decode cX4_lowestIn 31 = .ok (.getfield 52, 3) := by decide +kernel
theorem dX4_lowestIn_34 : decode cX4_lowestIn 34 = .ok (.iload 5, 2) := by decide +kernel
theorem dX4_lowestIn_36 : decode cX4_lowestIn 36 = .ok (.iaload, 1) := by decide +kernel
theorem dX4_lowestIn_37 : decode cX4_lowestIn 37 = .ok (.invokestatic 117, 3) := by decide +kernel
theorem dX4_lowestIn_40 : decode cX4_lowestIn 40 = .ok (.istore 4, 2) := by decide +kernel
theorem dX4_lowestIn_42 : decode cX4_lowestIn 42 = .ok (.iinc 5 1, 3) := by decide +kernel
theorem dX4_lowestIn_45 : decode cX4_lowestIn 45 = .ok (.goto (-38), 3) := by decide +kernel
theorem dX4_lowestIn_48 : decode cX4_lowestIn 48 = .ok (.iload 4, 2) := by decide +kernel
theorem dX4_lowestIn_50 : decode cX4_lowestIn 50 = .ok (.ireturn, 1) := by decide +kernel
theorem dX4_isSeen_0 : decode cX4_isSeen 0 = .ok (.iload_n 2, 1) := by decide +kernel
theorem dX4_isSeen_1 : decode cX4_isSeen 1 = .ok (.iload 4, 2) := by decide +kernel
theorem dX4_isSeen_3 : decode cX4_isSeen 3 = .ok (.ishr, 1) := by decide +kernel
theorem dX4_isSeen_4 : decode cX4_isSeen 4 = .ok (.iconst 1, 1) := by decide +kernel
theorem dX4_isSeen_5 : decode cX4_isSeen 5 = .ok (.iand, 1) := by decide +kernel
theorem dX4_isSeen_6 : decode cX4_isSeen 6 = .ok (.ifCond .eq 36, 3) := by decide +kernel
theorem dX4_isSeen_9 : decode cX4_isSeen 9 = .ok (.aload_n 0, 1) := by decide +kernel
theorem dX4_isSeen_10 : decode cX4_isSeen 10 = .ok (.getfield 52, 3) := by decide +kernel
theorem dX4_isSeen_13 : decode cX4_isSeen 13 = .ok (.iload 4, 2) := by decide +kernel
theorem dX4_isSeen_15 : decode cX4_isSeen 15 = .ok (.iaload, 1) := by decide +kernel
theorem dX4_isSeen_16 : decode cX4_isSeen 16 = .ok (.ifCond .le 26, 3) := by decide +kernel
theorem dX4_isSeen_19 : decode cX4_isSeen 19 = .ok (.aload_n 0, 1) := by decide +kernel
theorem dX4_isSeen_20 : decode cX4_isSeen 20 = .ok (.getfield 48, 3) := by decide +kernel
theorem dX4_isSeen_23 : decode cX4_isSeen 23 = .ok (.iload 4, 2) := by decide +kernel
theorem dX4_isSeen_25 : decode cX4_isSeen 25 = .ok (.iaload, 1) := by decide +kernel
theorem dX4_isSeen_26 : decode cX4_isSeen 26 = .ok (.iload_n 3, 1) := by decide +kernel
theorem dX4_isSeen_27 : decode cX4_isSeen 27 = .ok (.isub, 1) := by decide +kernel
theorem dX4_isSeen_28 : decode cX4_isSeen 28 = .ok (.invokestatic 112, 3) := by decide +kernel
theorem dX4_isSeen_31 : decode cX4_isSeen 31 = .ok (.aload_n 1, 1) := by decide +kernel
theorem dX4_isSeen_32 : decode cX4_isSeen 32 = .ok (.getfield 120, 3) := by decide +kernel
theorem dX4_isSeen_35 : decode cX4_isSeen 35 = .ok (.if_icmp .gt 7, 3) := by decide +kernel
theorem dX4_isSeen_38 : decode cX4_isSeen 38 = .ok (.iconst 1, 1) := by decide +kernel
theorem dX4_isSeen_39 : decode cX4_isSeen 39 = .ok (.goto 4, 3) := by decide +kernel
theorem dX4_isSeen_42 : decode cX4_isSeen 42 = .ok (.iconst 0, 1) := by decide +kernel
theorem dX4_isSeen_43 : decode cX4_isSeen 43 = .ok (.ireturn, 1) := by decide +kernel
theorem dX4_highByRank_0 : decode cX4_highByRank 0 = .ok (.iload_n 0, 1) := by decide +kernel
theorem dX4_highByRank_1 : decode cX4_highByRank 1 = .ok (.bipush 8, 2) := by decide +kernel
theorem dX4_highByRank_3 : decode cX4_highByRank 3 = .ok (.idiv, 1) := by decide +kernel
theorem dX4_highByRank_4 : decode cX4_highByRank 4 = .ok (.bipush 16, 2) := by decide +kernel
theorem dX4_highByRank_6 : decode cX4_highByRank 6 = .ok (.irem, 1) := by decide +kernel
theorem dX4_highByRank_7 : decode cX4_highByRank 7 = .ok (.ireturn, 1) := by decide +kernel
theorem dX5_init_0 : decode cX5_init 0 = .ok (.aload_n 0, 1) := by decide +kernel
theorem dX5_init_1 : decode cX5_init 1 = .ok (.invokespecial 3, 3) := by decide +kernel
theorem dX5_init_4 : decode cX5_init 4 = .ok (.return_, 1) := by decide +kernel
theorem dX5_cellIn_0 : decode cX5_cellIn 0 = .ok (.iload_n 3, 1) := by decide +kernel
theorem dX5_cellIn_1 : decode cX5_cellIn 1 = .ok (.iconst 2, 1) := by decide +kernel
theorem dX5_cellIn_2 : decode cX5_cellIn 2 = .ok (.irem, 1) := by decide +kernel
theorem dX5_cellIn_3 : decode cX5_cellIn 3 = .ok (.ifCond .ne 7, 3) := by decide +kernel
theorem dX5_cellIn_6 : decode cX5_cellIn 6 = .ok (.iload_n 1, 1) := by decide +kernel
theorem dX5_cellIn_7 : decode cX5_cellIn 7 = .ok (.goto 11, 3) := by decide +kernel
theorem dX5_cellIn_10 : decode cX5_cellIn 10 = .ok (.bipush 47, 2) := by decide +kernel
theorem dX5_cellIn_12 : decode cX5_cellIn 12 = .ok (.iload_n 1, 1) := by decide +kernel
theorem dX5_cellIn_13 : decode cX5_cellIn 13 = .ok (.iload_n 2, 1) := by decide +kernel
theorem dX5_cellIn_14 : decode cX5_cellIn 14 = .ok (.iadd, 1) := by decide +kernel
theorem dX5_cellIn_15 : decode cX5_cellIn 15 = .ok (.invokestatic 9, 3) := by decide +kernel
theorem dX5_cellIn_18 : decode cX5_cellIn 18 = .ok (.ireturn, 1) := by decide +kernel
theorem dX6_init_0 : decode cX6_init 0 = .ok (.aload_n 0, 1) := by decide +kernel
theorem dX6_init_1 : decode cX6_init 1 = .ok (.invokespecial 3, 3) := by decide +kernel
theorem dX6_init_4 : decode cX6_init 4 = .ok (.aload_n 0, 1) := by decide +kernel
theorem dX6_init_5 : decode cX6_init 5 = .ok (.bipush 10, 2) := by decide +kernel
theorem dX6_init_7 : decode cX6_init 7 = .ok (.putfield 9, 3) := by decide +kernel
theorem dX6_init_10 : decode cX6_init 10 = .ok (.aload_n 0, 1) := by decide +kernel
theorem dX6_init_11 : decode cX6_init 11 = .ok (.bipush 6, 2) := by decide +kernel
theorem dX6_init_13 : decode cX6_init 13 = .ok (.newarray .int, 2) := by decide +kernel
theorem dX6_init_15 : decode cX6_init 15 = .ok (.putfield 15, 3) := by decide +kernel
theorem dX6_init_18 : decode cX6_init 18 = .ok (.aload_n 0, 1) := by decide +kernel
theorem dX6_init_19 : decode cX6_init 19 = .ok (.bipush 6, 2) := by decide +kernel
theorem dX6_init_21 : decode cX6_init 21 = .ok (.newarray .int, 2) := by decide +kernel
theorem dX6_init_23 : decode cX6_init 23 = .ok (.putfield 19, 3) := by decide +kernel
theorem dX6_init_26 : decode cX6_init 26 = .ok (.aload_n 0, 1) := by decide +kernel
theorem dX6_init_27 : decode cX6_init 27 = .ok (.bipush 6, 2) := by decide +kernel
theorem dX6_init_29 : decode cX6_init 29 = .ok (.newarray .int, 2) := by decide +kernel
theorem dX6_init_31 : decode cX6_init 31 = .ok (.putfield 22, 3) := by decide +kernel
theorem dX6_init_34 : decode cX6_init 34 = .ok (.aload_n 0, 1) := by decide +kernel
theorem dX6_init_35 : decode cX6_init 35 = .ok (.bipush 6, 2) := by decide +kernel
theorem dX6_init_37 : decode cX6_init 37 = .ok (.newarray .int, 2) := by decide +kernel
theorem dX6_init_39 : decode cX6_init 39 = .ok (.putfield 25, 3) := by decide +kernel
theorem dX6_init_42 : decode cX6_init 42 = .ok (.aload_n 0, 1) := by decide +kernel
theorem dX6_init_43 : decode cX6_init 43 = .ok (.bipush 6, 2) := by decide +kernel
theorem dX6_init_45 : decode cX6_init 45 = .ok (.newarray .int, 2) := by decide +kernel
theorem dX6_init_47 : decode cX6_init 47 = .ok (.putfield 28, 3) := by decide +kernel
theorem dX6_init_50 : decode cX6_init 50 = .ok (.aload_n 0, 1) := by decide +kernel
theorem dX6_init_51 : decode cX6_init 51 = .ok (.bipush 20, 2) := by decide +kernel
theorem dX6_init_53 : decode cX6_init 53 = .ok (.newarray .int, 2) := by decide +kernel
theorem dX6_init_55 : decode cX6_init 55 = .ok (.putfield 31, 3) := by decide +kernel
theorem dX6_init_58 : decode cX6_init 58 = .ok (.aload_n 0, 1) := by decide +kernel
theorem dX6_init_59 : decode cX6_init 59 = .ok (.bipush 6, 2) := by decide +kernel
theorem dX6_init_61 : decode cX6_init 61 = .ok (.newarray .int, 2) := by decide +kernel
theorem dX6_init_63 : decode cX6_init 63 = .ok (.putfield 34, 3) := by decide +kernel
theorem dX6_init_66 : decode cX6_init 66 = .ok (.aload_n 0, 1) := by decide +kernel
theorem dX6_init_67 : decode cX6_init 67 = .ok (.bipush 6, 2) := by decide +kernel
theorem dX6_init_69 : decode cX6_init 69 = .ok (.newarray .int, 2) := by decide +kernel
theorem dX6_init_71 : decode cX6_init 71 = .ok (.putfield 37, 3) := by decide +kernel
theorem dX6_init_74 : decode cX6_init 74 = .ok (.aload_n 0, 1) := by decide +kernel
theorem dX6_init_75 : decode cX6_init 75 = .ok (.bipush 6, 2) := by decide +kernel
theorem dX6_init_77 : decode cX6_init 77 = .ok (.newarray .int, 2) := by decide +kernel
theorem dX6_init_79 : decode cX6_init 79 = .ok (.putfield 40, 3) := by decide +kernel
theorem dX6_init_82 : decode cX6_init 82 = .ok (.aload_n 0, 1) := by decide +kernel
theorem dX6_init_83 : decode cX6_init 83 = .ok (.bipush 8, 2) := by decide +kernel
theorem dX6_init_85 : decode cX6_init 85 = .ok (.newarray .int, 2) := by decide +kernel
theorem dX6_init_87 : decode cX6_init 87 = .ok (.putfield 43, 3) := by decide +kernel
theorem dX6_init_90 : decode cX6_init 90 = .ok (.aload_n 0, 1) := by decide +kernel
theorem dX6_init_91 : decode cX6_init 91 = .ok (.bipush 8, 2) := by decide +kernel
theorem dX6_init_93 : decode cX6_init 93 = .ok (.newarray .boolean, 2) := by decide +kernel
theorem dX6_init_95 : decode cX6_init 95 = .ok (.putfield 46, 3) := by decide +kernel
theorem dX6_init_98 : decode cX6_init 98 = .ok (.aload_n 0, 1) := by decide +kernel
theorem dX6_init_99 : decode cX6_init 99 = .ok (.bipush 8, 2) := by decide +kernel
theorem dX6_init_101 : decode cX6_init 101 = .ok (.newarray .int, 2) := by decide +kernel
theorem dX6_init_103 : decode cX6_init 103 = .ok (.putfield 50, 3) := by decide +kernel
theorem dX6_init_106 : decode cX6_init 106 = .ok (.return_, 1) := by decide +kernel
theorem dX6_begin_0 : decode cX6_begin 0 = .ok (.aload_n 0, 1) := by decide +kernel
theorem dX6_begin_1 : decode cX6_begin 1 = .ok (.iload_n 1, 1) := by decide +kernel
theorem dX6_begin_2 : decode cX6_begin 2 = .ok (.putfield 9, 3) := by decide +kernel
theorem dX6_begin_5 : decode cX6_begin 5 = .ok (.aload_n 0, 1) := by decide +kernel
theorem dX6_begin_6 : decode cX6_begin 6 = .ok (.iload_n 2, 1) := by decide +kernel
theorem dX6_begin_7 : decode cX6_begin 7 = .ok (.putfield 53, 3) := by decide +kernel
theorem dX6_begin_10 : decode cX6_begin 10 = .ok (.aload_n 0, 1) := by decide +kernel
theorem dX6_begin_11 : decode cX6_begin 11 = .ok (.iconst 0, 1) := by decide +kernel
theorem dX6_begin_12 : decode cX6_begin 12 = .ok (.putfield 56, 3) := by decide +kernel
theorem dX6_begin_15 : decode cX6_begin 15 = .ok (.aload_n 0, 1) := by decide +kernel
theorem dX6_begin_16 : decode cX6_begin 16 = .ok (.iconst 0, 1) := by decide +kernel
theorem dX6_begin_17 : decode cX6_begin 17 = .ok (.putfield 59, 3) := by decide +kernel
theorem dX6_begin_20 : decode cX6_begin 20 = .ok (.aload_n 0, 1) := by decide +kernel
theorem dX6_begin_21 : decode cX6_begin 21 = .ok (.iconst 0, 1) := by decide +kernel
theorem dX6_begin_22 : decode cX6_begin 22 = .ok (.putfield 62, 3) := by decide +kernel
theorem dX6_begin_25 : decode cX6_begin 25 = .ok (.aload_n 0, 1) := by decide +kernel
theorem dX6_begin_26 : decode cX6_begin 26 = .ok (.iconst 0, 1) := by decide +kernel
theorem dX6_begin_27 : decode cX6_begin 27 = .ok (.putfield 65, 3) := by decide +kernel
theorem dX6_begin_30 : decode cX6_begin 30 = .ok (.return_, 1) := by decide +kernel
theorem dX6_addChild_0 : decode cX6_addChild 0 = .ok (.aload_n 0, 1) := by decide +kernel
theorem dX6_addChild_1 : decode cX6_addChild 1 = .ok (.getfield 56, 3) := by decide +kernel
theorem dX6_addChild_4 : decode cX6_addChild 4 = .ok (.bipush 6, 2) := by decide +kernel
theorem dX6_addChild_6 : decode cX6_addChild 6 = .ok (.if_icmp .lt 4, 3) := by decide +kernel
theorem dX6_addChild_9 : decode cX6_addChild 9 = .ok (.return_, 1) := by decide +kernel
theorem dX6_addChild_10 : decode cX6_addChild 10 = .ok (.aload_n 0, 1) := by decide +kernel
theorem dX6_addChild_11 : decode cX6_addChild 11 = .ok (.getfield 15, 3) := by decide +kernel
theorem dX6_addChild_14 : decode cX6_addChild 14 = .ok (.aload_n 0, 1) := by decide +kernel
theorem dX6_addChild_15 : decode cX6_addChild 15 = .ok (.getfield 56, 3) := by decide +kernel
theorem dX6_addChild_18 : decode cX6_addChild 18 = .ok (.iload_n 1, 1) := by decide +kernel
theorem dX6_addChild_19 : decode cX6_addChild 19 = .ok (.iastore, 1) := by decide +kernel
theorem dX6_addChild_20 : decode cX6_addChild 20 = .ok (.aload_n 0, 1) := by decide +kernel
theorem dX6_addChild_21 : decode cX6_addChild 21 = .ok (.getfield 19, 3) := by decide +kernel
theorem dX6_addChild_24 : decode cX6_addChild 24 = .ok (.aload_n 0, 1) := by decide +kernel
theorem dX6_addChild_25 : decode cX6_addChild 25 = .ok (.getfield 56, 3) := by decide +kernel
theorem dX6_addChild_28 : decode cX6_addChild 28 = .ok (.iload_n 2, 1) := by decide +kernel
theorem dX6_addChild_29 : decode cX6_addChild 29 = .ok (.iastore, 1) := by decide +kernel
theorem dX6_addChild_30 : decode cX6_addChild 30 = .ok (.aload_n 0, 1) := by decide +kernel
theorem dX6_addChild_31 : decode cX6_addChild 31 = .ok (.getfield 22, 3) := by decide +kernel
theorem dX6_addChild_34 : decode cX6_addChild 34 = .ok (.aload_n 0, 1) := by decide +kernel
theorem dX6_addChild_35 : decode cX6_addChild 35 = .ok (.getfield 56, 3) := by decide +kernel
theorem dX6_addChild_38 : decode cX6_addChild 38 = .ok (.iload_n 3, 1) := by decide +kernel
theorem dX6_addChild_39 : decode cX6_addChild 39 = .ok (.iastore, 1) := by decide +kernel
theorem dX6_addChild_40 : decode cX6_addChild 40 = .ok (.aload_n 0, 1) := by decide +kernel
theorem dX6_addChild_41 : decode cX6_addChild 41 = .ok (.getfield 25, 3) := by decide +kernel
theorem dX6_addChild_44 : decode cX6_addChild 44 = .ok (.aload_n 0, 1) := by decide +kernel
theorem dX6_addChild_45 : decode cX6_addChild 45 = .ok (.getfield 56, 3) := by decide +kernel
theorem dX6_addChild_48 : decode cX6_addChild 48 = .ok (.iload 4, 2) := by decide +kernel
theorem dX6_addChild_50 : decode cX6_addChild 50 = .ok (.iastore, 1) := by decide +kernel
theorem dX6_addChild_51 : decode cX6_addChild 51 = .ok (.aload_n 0, 1) := by decide +kernel
theorem dX6_addChild_52 : decode cX6_addChild 52 = .ok (.getfield 28, 3) := by decide +kernel
theorem dX6_addChild_55 : decode cX6_addChild 55 = .ok (.aload_n 0, 1) := by decide +kernel
theorem dX6_addChild_56 : decode cX6_addChild 56 = .ok (.getfield 56, 3) := by decide +kernel
theorem dX6_addChild_59 : decode cX6_addChild 59 = .ok (.iload 5, 2) := by decide +kernel
theorem dX6_addChild_61 : decode cX6_addChild 61 = .ok (.iastore, 1) := by decide +kernel
theorem dX6_addChild_62 : decode cX6_addChild 62 = .ok (.aload_n 0, 1) := by decide +kernel
theorem dX6_addChild_63 : decode cX6_addChild 63 = .ok (.dup, 1) := by decide +kernel
theorem dX6_addChild_64 : decode cX6_addChild 64 = .ok (.getfield 56, 3) := by decide +kernel
theorem dX6_addChild_67 : decode cX6_addChild 67 = .ok (.iconst 1, 1) := by decide +kernel
theorem dX6_addChild_68 : decode cX6_addChild 68 = .ok (.iadd, 1) := by decide +kernel
theorem dX6_addChild_69 : decode cX6_addChild 69 = .ok (.putfield 56, 3) := by decide +kernel
theorem dX6_addChild_72 : decode cX6_addChild 72 = .ok (.aload_n 0, 1) := by decide +kernel
theorem dX6_addChild_73 : decode cX6_addChild 73 = .ok (.iconst 0, 1) := by decide +kernel
theorem dX6_addChild_74 : decode cX6_addChild 74 = .ok (.putfield 65, 3) := by decide +kernel
theorem dX6_addChild_77 : decode cX6_addChild 77 = .ok (.return_, 1) := by decide +kernel
theorem dX6_addSpeed_0 : decode cX6_addSpeed 0 = .ok (.aload_n 0, 1) := by decide +kernel
theorem dX6_addSpeed_1 : decode cX6_addSpeed 1 = .ok (.getfield 59, 3) := by decide +kernel
theorem dX6_addSpeed_4 : decode cX6_addSpeed 4 = .ok (.bipush 20, 2) := by decide +kernel
theorem dX6_addSpeed_6 : decode cX6_addSpeed 6 = .ok (.if_icmp .ge 23, 3) := by decide +kernel
theorem dX6_addSpeed_9 : decode cX6_addSpeed 9 = .ok (.aload_n 0, 1) := by decide +kernel
theorem dX6_addSpeed_10 : decode cX6_addSpeed 10 = .ok (.getfield 31, 3) := by decide +kernel
theorem dX6_addSpeed_13 : decode cX6_addSpeed 13 = .ok (.aload_n 0, 1) := by decide +kernel
theorem dX6_addSpeed_14 : decode cX6_addSpeed 14 = .ok (.getfield 59, 3) := by decide +kernel
theorem dX6_addSpeed_17 : decode cX6_addSpeed 17 = .ok (.iload_n 1, 1) := by decide +kernel
theorem dX6_addSpeed_18 : decode cX6_addSpeed 18 = .ok (.iastore, 1) := by decide +kernel
theorem dX6_addSpeed_19 : decode cX6_addSpeed 19 = .ok (.aload_n 0, 1) := by decide +kernel
theorem dX6_addSpeed_20 : decode cX6_addSpeed 20 = .ok (.dup, 1) := by decide +kernel
theorem dX6_addSpeed_21 : decode cX6_addSpeed 21 = .ok (.getfield 59, 3) := by decide +kernel
theorem dX6_addSpeed_24 : decode cX6_addSpeed 24 = .ok (.iconst 1, 1) := by decide +kernel
theorem dX6_addSpeed_25 : decode cX6_addSpeed 25 = .ok (.iadd, 1) := by decide +kernel
theorem dX6_addSpeed_26 : decode cX6_addSpeed 26 = .ok (.putfield 59, 3) := by decide +kernel
theorem dX6_addSpeed_29 : decode cX6_addSpeed 29 = .ok (.return_, 1) := by decide +kernel
theorem dX6_addReading_0 : decode cX6_addReading 0 = .ok (.aload_n 0, 1) := by decide +kernel
theorem dX6_addReading_1 : decode cX6_addReading 1 = .ok (.getfield 62, 3) := by decide +kernel
theorem dX6_addReading_4 : decode cX6_addReading 4 = .ok (.bipush 6, 2) := by decide +kernel
theorem dX6_addReading_6 : decode cX6_addReading 6 = .ok (.if_icmp .ge 43, 3) := by decide +kernel
theorem dX6_addReading_9 : decode cX6_addReading 9 = .ok (.aload_n 0, 1) := by decide +kernel
theorem dX6_addReading_10 : decode cX6_addReading 10 = .ok (.getfield 34, 3) := by decide +kernel
theorem dX6_addReading_13 : decode cX6_addReading 13 = .ok (.aload_n 0, 1) := by decide +kernel
theorem dX6_addReading_14 : decode cX6_addReading 14 = .ok (.getfield 62, 3) := by decide +kernel
theorem dX6_addReading_17 : decode cX6_addReading 17 = .ok (.iload_n 1, 1) := by decide +kernel
theorem dX6_addReading_18 : decode cX6_addReading 18 = .ok (.iastore, 1) := by decide +kernel
theorem dX6_addReading_19 : decode cX6_addReading 19 = .ok (.aload_n 0, 1) := by decide +kernel
theorem dX6_addReading_20 : decode cX6_addReading 20 = .ok (.getfield 37, 3) := by decide +kernel
theorem dX6_addReading_23 : decode cX6_addReading 23 = .ok (.aload_n 0, 1) := by decide +kernel
theorem dX6_addReading_24 : decode cX6_addReading 24 = .ok (.getfield 62, 3) := by decide +kernel
theorem dX6_addReading_27 : decode cX6_addReading 27 = .ok (.iload_n 2, 1) := by decide +kernel
theorem dX6_addReading_28 : decode cX6_addReading 28 = .ok (.iastore, 1) := by decide +kernel
theorem dX6_addReading_29 : decode cX6_addReading 29 = .ok (.aload_n 0, 1) := by decide +kernel
theorem dX6_addReading_30 : decode cX6_addReading 30 = .ok (.getfield 40, 3) := by decide +kernel
theorem dX6_addReading_33 : decode cX6_addReading 33 = .ok (.aload_n 0, 1) := by decide +kernel
theorem dX6_addReading_34 : decode cX6_addReading 34 = .ok (.getfield 62, 3) := by decide +kernel
theorem dX6_addReading_37 : decode cX6_addReading 37 = .ok (.iload_n 3, 1) := by decide +kernel
theorem dX6_addReading_38 : decode cX6_addReading 38 = .ok (.iastore, 1) := by decide +kernel
theorem dX6_addReading_39 : decode cX6_addReading 39 = .ok (.aload_n 0, 1) := by decide +kernel
theorem dX6_addReading_40 : decode cX6_addReading 40 = .ok (.dup, 1) := by decide +kernel
theorem dX6_addReading_41 : decode cX6_addReading 41 = .ok (.getfield 62, 3) := by decide +kernel
theorem dX6_addReading_44 : decode cX6_addReading 44 = .ok (.iconst 1, 1) := by decide +kernel
theorem dX6_addReading_45 : decode cX6_addReading 45 = .ok (.iadd, 1) := by decide +kernel
theorem dX6_addReading_46 : decode cX6_addReading 46 = .ok (.putfield 62, 3) := by decide +kernel
theorem dX6_addReading_49 : decode cX6_addReading 49 = .ok (.return_, 1) := by decide +kernel
theorem dX6_keepForUndo_0 : decode cX6_keepForUndo 0 = .ok (.aload_n 0, 1) := by decide +kernel
theorem dX6_keepForUndo_1 : decode cX6_keepForUndo 1 = .ok (.getfield 65, 3) := by decide +kernel
theorem dX6_keepForUndo_4 : decode cX6_keepForUndo 4 = .ok (.bipush 8, 2) := by decide +kernel
theorem dX6_keepForUndo_6 : decode cX6_keepForUndo 6 = .ok (.if_icmp .lt 54, 3) := by decide +kernel
theorem dX6_keepForUndo_9 : decode cX6_keepForUndo 9 = .ok (.aload_n 0, 1) := by decide +kernel
theorem dX6_keepForUndo_10 : decode cX6_keepForUndo 10 = .ok (.getfield 43, 3) := by decide +kernel
theorem dX6_keepForUndo_13 : decode cX6_keepForUndo 13 = .ok (.iconst 1, 1) := by decide +kernel
theorem dX6_keepForUndo_14 : decode cX6_keepForUndo 14 = .ok (.aload_n 0, 1) := by decide +kernel
theorem dX6_keepForUndo_15 : decode cX6_keepForUndo 15 = .ok (.getfield 43, 3) := by decide +kernel
theorem dX6_keepForUndo_18 : decode cX6_keepForUndo 18 = .ok (.iconst 0, 1) := by decide +kernel
theorem dX6_keepForUndo_19 : decode cX6_keepForUndo 19 = .ok (.bipush 7, 2) := by decide +kernel
theorem dX6_keepForUndo_21 : decode cX6_keepForUndo 21 = .ok (.invokestatic 68, 3) := by decide +kernel
theorem dX6_keepForUndo_24 : decode cX6_keepForUndo 24 = .ok (.aload_n 0, 1) := by decide +kernel
theorem dX6_keepForUndo_25 : decode cX6_keepForUndo 25 = .ok (.getfield 46, 3) := by decide +kernel
theorem dX6_keepForUndo_28 : decode cX6_keepForUndo 28 = .ok (.iconst 1, 1) := by decide +kernel
theorem dX6_keepForUndo_29 : decode cX6_keepForUndo 29 = .ok (.aload_n 0, 1) := by decide +kernel
theorem dX6_keepForUndo_30 : decode cX6_keepForUndo 30 = .ok (.getfield 46, 3) := by decide +kernel
theorem dX6_keepForUndo_33 : decode cX6_keepForUndo 33 = .ok (.iconst 0, 1) := by decide +kernel
theorem dX6_keepForUndo_34 : decode cX6_keepForUndo 34 = .ok (.bipush 7, 2) := by decide +kernel
theorem dX6_keepForUndo_36 : decode cX6_keepForUndo 36 = .ok (.invokestatic 68, 3) := by decide +kernel
theorem dX6_keepForUndo_39 : decode cX6_keepForUndo 39 = .ok (.aload_n 0, 1) := by decide +kernel
theorem dX6_keepForUndo_40 : decode cX6_keepForUndo 40 = .ok (.getfield 50, 3) := by decide +kernel
theorem dX6_keepForUndo_43 : decode cX6_keepForUndo 43 = .ok (.iconst 1, 1) := by decide +kernel
theorem dX6_keepForUndo_44 : decode cX6_keepForUndo 44 = .ok (.aload_n 0, 1) := by decide +kernel
theorem dX6_keepForUndo_45 : decode cX6_keepForUndo 45 = .ok (.getfield 50, 3) := by decide +kernel
theorem dX6_keepForUndo_48 : decode cX6_keepForUndo 48 = .ok (.iconst 0, 1) := by decide +kernel
theorem dX6_keepForUndo_49 : decode cX6_keepForUndo 49 = .ok (.bipush 7, 2) := by decide +kernel
theorem dX6_keepForUndo_51 : decode cX6_keepForUndo 51 = .ok (.invokestatic 68, 3) := by decide +kernel
theorem dX6_keepForUndo_54 : decode cX6_keepForUndo 54 = .ok (.aload_n 0, 1) := by decide +kernel
theorem dX6_keepForUndo_55 : decode cX6_keepForUndo 55 = .ok (.bipush 7, 2) := by decide +kernel
theorem dX6_keepForUndo_57 : decode cX6_keepForUndo 57 = .ok (.putfield 65, 3) := by decide +kernel
theorem dX6_keepForUndo_60 : decode cX6_keepForUndo 60 = .ok (.aload_n 0, 1) := by decide +kernel
theorem dX6_keepForUndo_61 : decode cX6_keepForUndo 61 = .ok (.getfield 43, 3) := by decide +kernel
theorem dX6_keepForUndo_64 : decode cX6_keepForUndo 64 = .ok (.aload_n 0, 1) := by decide +kernel
theorem dX6_keepForUndo_65 : decode cX6_keepForUndo 65 = .ok (.getfield 65, 3) := by decide +kernel
theorem dX6_keepForUndo_68 : decode cX6_keepForUndo 68 = .ok (.iload_n 1, 1) := by decide +kernel
theorem dX6_keepForUndo_69 : decode cX6_keepForUndo 69 = .ok (.iastore, 1) := by decide +kernel
theorem dX6_keepForUndo_70 : decode cX6_keepForUndo 70 = .ok (.aload_n 0, 1) := by decide +kernel
theorem dX6_keepForUndo_71 : decode cX6_keepForUndo 71 = .ok (.getfield 46, 3) := by decide +kernel
theorem dX6_keepForUndo_74 : decode cX6_keepForUndo 74 = .ok (.aload_n 0, 1) := by decide +kernel
theorem dX6_keepForUndo_75 : decode cX6_keepForUndo 75 = .ok (.getfield 65, 3) := by decide +kernel
theorem dX6_keepForUndo_78 : decode cX6_keepForUndo 78 = .ok (.iload_n 2, 1) := by decide +kernel
theorem dX6_keepForUndo_79 : decode cX6_keepForUndo 79 = .ok (.bastore, 1) := by decide +kernel
theorem dX6_keepForUndo_80 : decode cX6_keepForUndo 80 = .ok (.aload_n 0, 1) := by decide +kernel
theorem dX6_keepForUndo_81 : decode cX6_keepForUndo 81 = .ok (.getfield 50, 3) := by decide +kernel
theorem dX6_keepForUndo_84 : decode cX6_keepForUndo 84 = .ok (.aload_n 0, 1) := by decide +kernel
theorem dX6_keepForUndo_85 : decode cX6_keepForUndo 85 = .ok (.getfield 65, 3) := by decide +kernel
theorem dX6_keepForUndo_88 : decode cX6_keepForUndo 88 = .ok (.iload_n 3, 1) := by decide +kernel
theorem dX6_keepForUndo_89 : decode cX6_keepForUndo 89 = .ok (.iastore, 1) := by decide +kernel
theorem dX6_keepForUndo_90 : decode cX6_keepForUndo 90 = .ok (.aload_n 0, 1) := by decide +kernel
theorem dX6_keepForUndo_91 : decode cX6_keepForUndo 91 = .ok (.dup, 1) := by decide +kernel
theorem dX6_keepForUndo_92 : decode cX6_keepForUndo 92 = .ok (.getfield 65, 3) := by decide +kernel
theorem dX6_keepForUndo_95 : decode cX6_keepForUndo 95 = .ok (.iconst 1, 1) := by decide +kernel
theorem dX6_keepForUndo_96 : decode cX6_keepForUndo 96 = .ok (.iadd, 1) := by decide +kernel
theorem dX6_keepForUndo_97 : decode cX6_keepForUndo 97 = .ok (.putfield 65, 3) := by decide +kernel
theorem dX6_keepForUndo_100 : decode cX6_keepForUndo 100 = .ok (.return_, 1) := by decide +kernel
theorem dX6_undoLast_0 : decode cX6_undoLast 0 = .ok (.aload_n 0, 1) := by decide +kernel
theorem dX6_undoLast_1 : decode cX6_undoLast 1 = .ok (.getfield 65, 3) := by decide +kernel
theorem dX6_undoLast_4 : decode cX6_undoLast 4 = .ok (.ifCond .gt 4, 3) := by decide +kernel
theorem dX6_undoLast_7 : decode cX6_undoLast 7 = .ok (.return_, 1) := by decide +kernel
theorem dX6_undoLast_8 : decode cX6_undoLast 8 = .ok (.aload_n 0, 1) := by decide +kernel
theorem dX6_undoLast_9 : decode cX6_undoLast 9 = .ok (.dup, 1) := by decide +kernel
theorem dX6_undoLast_10 : decode cX6_undoLast 10 = .ok (.getfield 65, 3) := by decide +kernel
theorem dX6_undoLast_13 : decode cX6_undoLast 13 = .ok (.iconst 1, 1) := by decide +kernel
theorem dX6_undoLast_14 : decode cX6_undoLast 14 = .ok (.isub, 1) := by decide +kernel
theorem dX6_undoLast_15 : decode cX6_undoLast 15 = .ok (.putfield 65, 3) := by decide +kernel
theorem dX6_undoLast_18 : decode cX6_undoLast 18 = .ok (.aload_n 0, 1) := by decide +kernel
theorem dX6_undoLast_19 : decode cX6_undoLast 19 = .ok (.getfield 46, 3) := by decide +kernel
theorem dX6_undoLast_22 : decode cX6_undoLast 22 = .ok (.aload_n 0, 1) := by decide +kernel
theorem dX6_undoLast_23 : decode cX6_undoLast 23 = .ok (.getfield 65, 3) := by decide +kernel
theorem dX6_undoLast_26 : decode cX6_undoLast 26 = .ok (.baload, 1) := by decide +kernel
theorem dX6_undoLast_27 : decode cX6_undoLast 27 = .ok (.ifCond .eq 10, 3) := by decide +kernel
theorem dX6_undoLast_30 : decode cX6_undoLast 30 = .ok (.aload_n 0, 1) := by decide +kernel
theorem dX6_undoLast_31 : decode cX6_undoLast 31 = .ok (.getfield 28, 3) := by decide +kernel
theorem dX6_undoLast_34 : decode cX6_undoLast 34 = .ok (.goto 7, 3) := by decide +kernel
theorem dX6_undoLast_37 : decode cX6_undoLast 37 = .ok (.aload_n 0, 1) := by decide +kernel
theorem dX6_undoLast_38 : decode cX6_undoLast 38 = .ok (.getfield 22, 3) := by decide +kernel
theorem dX6_undoLast_41 : decode cX6_undoLast 41 = .ok (.astore_n 1, 1) := by decide +kernel
theorem dX6_undoLast_42 : decode cX6_undoLast 42 = .ok (.aload_n 1, 1) := by decide +kernel
theorem dX6_undoLast_43 : decode cX6_undoLast 43 = .ok (.aload_n 0, 1) := by decide +kernel
theorem dX6_undoLast_44 : decode cX6_undoLast 44 = .ok (.getfield 43, 3) := by decide +kernel
theorem dX6_undoLast_47 : decode cX6_undoLast 47 = .ok (.aload_n 0, 1) := by decide +kernel
theorem dX6_undoLast_48 : decode cX6_undoLast 48 = .ok (.getfield 65, 3) := by decide +kernel
theorem dX6_undoLast_51 : decode cX6_undoLast 51 = .ok (.iaload, 1) := by decide +kernel
theorem dX6_undoLast_52 : decode cX6_undoLast 52 = .ok (.aload_n 0, 1) := by decide +kernel
theorem dX6_undoLast_53 : decode cX6_undoLast 53 = .ok (.getfield 50, 3) := by decide +kernel
theorem dX6_undoLast_56 : decode cX6_undoLast 56 = .ok (.aload_n 0, 1) := by decide +kernel
theorem dX6_undoLast_57 : decode cX6_undoLast 57 = .ok (.getfield 65, 3) := by decide +kernel
theorem dX6_undoLast_60 : decode cX6_undoLast 60 = .ok (.iaload, 1) := by decide +kernel
theorem dX6_undoLast_61 : decode cX6_undoLast 61 = .ok (.iastore, 1) := by decide +kernel
theorem dX6_undoLast_62 : decode cX6_undoLast 62 = .ok (.return_, 1) := by decide +kernel
theorem dX6_copyFrom_0 : decode cX6_copyFrom 0 = .ok (.aload_n 0, 1) := by decide +kernel
theorem dX6_copyFrom_1 : decode cX6_copyFrom 1 = .ok (.aload_n 1, 1) := by decide +kernel
theorem dX6_copyFrom_2 : decode cX6_copyFrom 2 = .ok (.getfield 9, 3) := by decide +kernel
theorem dX6_copyFrom_5 : decode cX6_copyFrom 5 = .ok (.putfield 9, 3) := by decide +kernel
theorem dX6_copyFrom_8 : decode cX6_copyFrom 8 = .ok (.aload_n 0, 1) := by decide +kernel
theorem dX6_copyFrom_9 : decode cX6_copyFrom 9 = .ok (.aload_n 1, 1) := by decide +kernel
theorem dX6_copyFrom_10 : decode cX6_copyFrom 10 = .ok (.getfield 53, 3) := by decide +kernel
theorem dX6_copyFrom_13 : decode cX6_copyFrom 13 = .ok (.putfield 53, 3) := by decide +kernel
theorem dX6_copyFrom_16 : decode cX6_copyFrom 16 = .ok (.aload_n 0, 1) := by decide +kernel
theorem dX6_copyFrom_17 : decode cX6_copyFrom 17 = .ok (.aload_n 1, 1) := by decide +kernel
theorem dX6_copyFrom_18 : decode cX6_copyFrom 18 = .ok (.getfield 56, 3) := by decide +kernel
theorem dX6_copyFrom_21 : decode cX6_copyFrom 21 = .ok (.putfield 56, 3) := by decide +kernel
theorem dX6_copyFrom_24 : decode cX6_copyFrom 24 = .ok (.aload_n 1, 1) := by decide +kernel
theorem dX6_copyFrom_25 : decode cX6_copyFrom 25 = .ok (.getfield 15, 3) := by decide +kernel
theorem dX6_copyFrom_28 : decode cX6_copyFrom 28 = .ok (.iconst 0, 1) := by decide +kernel
theorem dX6_copyFrom_29 : decode cX6_copyFrom 29 = .ok (.aload_n 0, 1) := by decide +kernel
theorem dX6_copyFrom_30 : decode cX6_copyFrom 30 = .ok (.getfield 15, 3) := by decide +kernel
theorem dX6_copyFrom_33 : decode cX6_copyFrom 33 = .ok (.iconst 0, 1) := by decide +kernel
theorem dX6_copyFrom_34 : decode cX6_copyFrom 34 = .ok (.bipush 6, 2) := by decide +kernel
theorem dX6_copyFrom_36 : decode cX6_copyFrom 36 = .ok (.invokestatic 68, 3) := by decide +kernel
theorem dX6_copyFrom_39 : decode cX6_copyFrom 39 = .ok (.aload_n 1, 1) := by decide +kernel
theorem dX6_copyFrom_40 : decode cX6_copyFrom 40 = .ok (.getfield 19, 3) := by decide +kernel
theorem dX6_copyFrom_43 : decode cX6_copyFrom 43 = .ok (.iconst 0, 1) := by decide +kernel
theorem dX6_copyFrom_44 : decode cX6_copyFrom 44 = .ok (.aload_n 0, 1) := by decide +kernel
theorem dX6_copyFrom_45 : decode cX6_copyFrom 45 = .ok (.getfield 19, 3) := by decide +kernel
theorem dX6_copyFrom_48 : decode cX6_copyFrom 48 = .ok (.iconst 0, 1) := by decide +kernel
theorem dX6_copyFrom_49 : decode cX6_copyFrom 49 = .ok (.bipush 6, 2) := by decide +kernel
theorem dX6_copyFrom_51 : decode cX6_copyFrom 51 = .ok (.invokestatic 68, 3) := by decide +kernel
theorem dX6_copyFrom_54 : decode cX6_copyFrom 54 = .ok (.aload_n 1, 1) := by decide +kernel
theorem dX6_copyFrom_55 : decode cX6_copyFrom 55 = .ok (.getfield 22, 3) := by decide +kernel
theorem dX6_copyFrom_58 : decode cX6_copyFrom 58 = .ok (.iconst 0, 1) := by decide +kernel
theorem dX6_copyFrom_59 : decode cX6_copyFrom 59 = .ok (.aload_n 0, 1) := by decide +kernel
theorem dX6_copyFrom_60 : decode cX6_copyFrom 60 = .ok (.getfield 22, 3) := by decide +kernel
theorem dX6_copyFrom_63 : decode cX6_copyFrom 63 = .ok (.iconst 0, 1) := by decide +kernel
theorem dX6_copyFrom_64 : decode cX6_copyFrom 64 = .ok (.bipush 6, 2) := by decide +kernel
theorem dX6_copyFrom_66 : decode cX6_copyFrom 66 = .ok (.invokestatic 68, 3) := by decide +kernel
theorem dX6_copyFrom_69 : decode cX6_copyFrom 69 = .ok (.aload_n 1, 1) := by decide +kernel
theorem dX6_copyFrom_70 : decode cX6_copyFrom 70 = .ok (.getfield 25, 3) := by decide +kernel
theorem dX6_copyFrom_73 : decode cX6_copyFrom 73 = .ok (.iconst 0, 1) := by decide +kernel
theorem dX6_copyFrom_74 : decode cX6_copyFrom 74 = .ok (.aload_n 0, 1) := by decide +kernel
theorem dX6_copyFrom_75 : decode cX6_copyFrom 75 = .ok (.getfield 25, 3) := by decide +kernel
theorem dX6_copyFrom_78 : decode cX6_copyFrom 78 = .ok (.iconst 0, 1) := by decide +kernel
theorem dX6_copyFrom_79 : decode cX6_copyFrom 79 = .ok (.bipush 6, 2) := by decide +kernel
theorem dX6_copyFrom_81 : decode cX6_copyFrom 81 = .ok (.invokestatic 68, 3) := by decide +kernel
theorem dX6_copyFrom_84 : decode cX6_copyFrom 84 = .ok (.aload_n 1, 1) := by decide +kernel
theorem dX6_copyFrom_85 : decode cX6_copyFrom 85 = .ok (.getfield 28, 3) := by decide +kernel
theorem dX6_copyFrom_88 : decode cX6_copyFrom 88 = .ok (.iconst 0, 1) := by decide +kernel
theorem dX6_copyFrom_89 : decode cX6_copyFrom 89 = .ok (.aload_n 0, 1) := by decide +kernel
theorem dX6_copyFrom_90 : decode cX6_copyFrom 90 = .ok (.getfield 28, 3) := by decide +kernel
theorem dX6_copyFrom_93 : decode cX6_copyFrom 93 = .ok (.iconst 0, 1) := by decide +kernel
theorem dX6_copyFrom_94 : decode cX6_copyFrom 94 = .ok (.bipush 6, 2) := by decide +kernel
theorem dX6_copyFrom_96 : decode cX6_copyFrom 96 = .ok (.invokestatic 68, 3) := by decide +kernel
theorem dX6_copyFrom_99 : decode cX6_copyFrom 99 = .ok (.aload_n 0, 1) := by decide +kernel
theorem dX6_copyFrom_100 : decode cX6_copyFrom 100 = .ok (.aload_n 1, 1) := by decide +kernel
theorem dX6_copyFrom_101 : decode cX6_copyFrom 101 = .ok (.getfield 59, 3) := by decide +kernel
theorem dX6_copyFrom_104 : decode cX6_copyFrom 104 = .ok (.putfield 59, 3) := by decide +kernel
theorem dX6_copyFrom_107 : decode cX6_copyFrom 107 = .ok (.aload_n 1, 1) := by decide +kernel
theorem dX6_copyFrom_108 : decode cX6_copyFrom 108 = .ok (.getfield 31, 3) := by decide +kernel
theorem dX6_copyFrom_111 : decode cX6_copyFrom 111 = .ok (.iconst 0, 1) := by decide +kernel
theorem dX6_copyFrom_112 : decode cX6_copyFrom 112 = .ok (.aload_n 0, 1) := by decide +kernel
theorem dX6_copyFrom_113 : decode cX6_copyFrom 113 = .ok (.getfield 31, 3) := by decide +kernel
theorem dX6_copyFrom_116 : decode cX6_copyFrom 116 = .ok (.iconst 0, 1) := by decide +kernel
theorem dX6_copyFrom_117 : decode cX6_copyFrom 117 = .ok (.bipush 20, 2) := by decide +kernel
theorem dX6_copyFrom_119 : decode cX6_copyFrom 119 = .ok (.invokestatic 68, 3) := by decide +kernel
theorem dX6_copyFrom_122 : decode cX6_copyFrom 122 = .ok (.aload_n 0, 1) := by decide +kernel
theorem dX6_copyFrom_123 : decode cX6_copyFrom 123 = .ok (.aload_n 1, 1) := by decide +kernel
theorem dX6_copyFrom_124 : decode cX6_copyFrom 124 = .ok (.getfield 62, 3) := by decide +kernel
theorem dX6_copyFrom_127 : decode cX6_copyFrom 127 = .ok (.putfield 62, 3) := by decide +kernel
theorem dX6_copyFrom_130 : decode cX6_copyFrom 130 = .ok (.aload_n 1, 1) := by decide +kernel
theorem dX6_copyFrom_131 : decode cX6_copyFrom 131 = .ok (.getfield 34, 3) := by decide +kernel
theorem dX6_copyFrom_134 : decode cX6_copyFrom 134 = .ok (.iconst 0, 1) := by decide +kernel
theorem dX6_copyFrom_135 : decode cX6_copyFrom 135 = .ok (.aload_n 0, 1) := by decide +kernel
theorem dX6_copyFrom_136 : decode cX6_copyFrom 136 = .ok (.getfield 34, 3) := by decide +kernel
theorem dX6_copyFrom_139 : decode cX6_copyFrom 139 = .ok (.iconst 0, 1) := by decide +kernel
theorem dX6_copyFrom_140 : decode cX6_copyFrom 140 = .ok (.bipush 6, 2) := by decide +kernel
theorem dX6_copyFrom_142 : decode cX6_copyFrom 142 = .ok (.invokestatic 68, 3) := by decide +kernel
theorem dX6_copyFrom_145 : decode cX6_copyFrom 145 = .ok (.aload_n 1, 1) := by decide +kernel
theorem dX6_copyFrom_146 : decode cX6_copyFrom 146 = .ok (.getfield 37, 3) := by decide +kernel
theorem dX6_copyFrom_149 : decode cX6_copyFrom 149 = .ok (.iconst 0, 1) := by decide +kernel
theorem dX6_copyFrom_150 : decode cX6_copyFrom 150 = .ok (.aload_n 0, 1) := by decide +kernel
theorem dX6_copyFrom_151 : decode cX6_copyFrom 151 = .ok (.getfield 37, 3) := by decide +kernel
theorem dX6_copyFrom_154 : decode cX6_copyFrom 154 = .ok (.iconst 0, 1) := by decide +kernel
theorem dX6_copyFrom_155 : decode cX6_copyFrom 155 = .ok (.bipush 6, 2) := by decide +kernel
theorem dX6_copyFrom_157 : decode cX6_copyFrom 157 = .ok (.invokestatic 68, 3) := by decide +kernel
theorem dX6_copyFrom_160 : decode cX6_copyFrom 160 = .ok (.aload_n 1, 1) := by decide +kernel
theorem dX6_copyFrom_161 : decode cX6_copyFrom 161 = .ok (.getfield 40, 3) := by decide +kernel
theorem dX6_copyFrom_164 : decode cX6_copyFrom 164 = .ok (.iconst 0, 1) := by decide +kernel
theorem dX6_copyFrom_165 : decode cX6_copyFrom 165 = .ok (.aload_n 0, 1) := by decide +kernel
theorem dX6_copyFrom_166 : decode cX6_copyFrom 166 = .ok (.getfield 40, 3) := by decide +kernel
theorem dX6_copyFrom_169 : decode cX6_copyFrom 169 = .ok (.iconst 0, 1) := by decide +kernel
theorem dX6_copyFrom_170 : decode cX6_copyFrom 170 = .ok (.bipush 6, 2) := by decide +kernel
theorem dX6_copyFrom_172 : decode cX6_copyFrom 172 = .ok (.invokestatic 68, 3) := by decide +kernel
theorem dX6_copyFrom_175 : decode cX6_copyFrom 175 = .ok (.aload_n 0, 1) := by decide +kernel
theorem dX6_copyFrom_176 : decode cX6_copyFrom 176 = .ok (.aload_n 1, 1) := by decide +kernel
theorem dX6_copyFrom_177 : decode cX6_copyFrom 177 = .ok (.getfield 65, 3) := by decide +kernel
theorem dX6_copyFrom_180 : decode cX6_copyFrom 180 = .ok (.putfield 65, 3) := by decide +kernel
theorem dX6_copyFrom_183 : decode cX6_copyFrom 183 = .ok (.aload_n 1, 1) := by decide +kernel
theorem dX6_copyFrom_184 : decode cX6_copyFrom 184 = .ok (.getfield 43, 3) := by decide +kernel
theorem dX6_copyFrom_187 : decode cX6_copyFrom 187 = .ok (.iconst 0, 1) := by decide +kernel
theorem dX6_copyFrom_188 : decode cX6_copyFrom 188 = .ok (.aload_n 0, 1) := by decide +kernel
theorem dX6_copyFrom_189 : decode cX6_copyFrom 189 = .ok (.getfield 43, 3) := by decide +kernel
theorem dX6_copyFrom_192 : decode cX6_copyFrom 192 = .ok (.iconst 0, 1) := by decide +kernel
theorem dX6_copyFrom_193 : decode cX6_copyFrom 193 = .ok (.bipush 8, 2) := by decide +kernel
theorem dX6_copyFrom_195 : decode cX6_copyFrom 195 = .ok (.invokestatic 68, 3) := by decide +kernel
theorem dX6_copyFrom_198 : decode cX6_copyFrom 198 = .ok (.aload_n 1, 1) := by decide +kernel
theorem dX6_copyFrom_199 : decode cX6_copyFrom 199 = .ok (.getfield 46, 3) := by decide +kernel
theorem dX6_copyFrom_202 : decode cX6_copyFrom 202 = .ok (.iconst 0, 1) := by decide +kernel
theorem dX6_copyFrom_203 : decode cX6_copyFrom 203 = .ok (.aload_n 0, 1) := by decide +kernel
theorem dX6_copyFrom_204 : decode cX6_copyFrom 204 = .ok (.getfield 46, 3) := by decide +kernel
theorem dX6_copyFrom_207 : decode cX6_copyFrom 207 = .ok (.iconst 0, 1) := by decide +kernel
theorem dX6_copyFrom_208 : decode cX6_copyFrom 208 = .ok (.bipush 8, 2) := by decide +kernel
theorem dX6_copyFrom_210 : decode cX6_copyFrom 210 = .ok (.invokestatic 68, 3) := by decide +kernel
theorem dX6_copyFrom_213 : decode cX6_copyFrom 213 = .ok (.aload_n 1, 1) := by decide +kernel
theorem dX6_copyFrom_214 : decode cX6_copyFrom 214 = .ok (.getfield 50, 3) := by decide +kernel
theorem dX6_copyFrom_217 : decode cX6_copyFrom 217 = .ok (.iconst 0, 1) := by decide +kernel
theorem dX6_copyFrom_218 : decode cX6_copyFrom 218 = .ok (.aload_n 0, 1) := by decide +kernel
theorem dX6_copyFrom_219 : decode cX6_copyFrom 219 = .ok (.getfield 50, 3) := by decide +kernel
theorem dX6_copyFrom_222 : decode cX6_copyFrom 222 = .ok (.iconst 0, 1) := by decide +kernel
theorem dX6_copyFrom_223 : decode cX6_copyFrom 223 = .ok (.bipush 8, 2) := by decide +kernel
theorem dX6_copyFrom_225 : decode cX6_copyFrom 225 = .ok (.invokestatic 68, 3) := by decide +kernel
theorem dX6_copyFrom_228 : decode cX6_copyFrom 228 = .ok (.return_, 1) := by decide +kernel
theorem dX6_everyChild_0 : decode cX6_everyChild 0 = .ok (.iconst 1, 1) := by decide +kernel
theorem dX6_everyChild_1 : decode cX6_everyChild 1 = .ok (.aload_n 0, 1) := by decide +kernel
theorem dX6_everyChild_2 : decode cX6_everyChild 2 = .ok (.getfield 56, 3) := by decide +kernel
theorem dX6_everyChild_5 : decode cX6_everyChild 5 = .ok (.ishl, 1) := by decide +kernel
theorem dX6_everyChild_6 : decode cX6_everyChild 6 = .ok (.iconst 1, 1) := by decide +kernel
theorem dX6_everyChild_7 : decode cX6_everyChild 7 = .ok (.isub, 1) := by decide +kernel
theorem dX6_everyChild_8 : decode cX6_everyChild 8 = .ok (.ireturn, 1) := by decide +kernel
theorem dX6_digestOn_0 : decode cX6_digestOn 0 = .ok (.lload_n 1, 1) := by decide +kernel
theorem dX6_digestOn_1 : decode cX6_digestOn 1 = .ok (.lstore_n 3, 1) := by decide +kernel
theorem dX6_digestOn_2 : decode cX6_digestOn 2 = .ok (.iconst 0, 1) := by decide +kernel
theorem dX6_digestOn_3 : decode cX6_digestOn 3 = .ok (.istore 5, 2) := by decide +kernel
theorem dX6_digestOn_5 : decode cX6_digestOn 5 = .ok (.iload 5, 2) := by decide +kernel
theorem dX6_digestOn_7 : decode cX6_digestOn 7 = .ok (.aload_n 0, 1) := by decide +kernel
theorem dX6_digestOn_8 : decode cX6_digestOn 8 = .ok (.getfield 56, 3) := by decide +kernel
theorem dX6_digestOn_11 : decode cX6_digestOn 11 = .ok (.if_icmp .ge 84, 3) := by decide +kernel
theorem dX6_digestOn_14 : decode cX6_digestOn 14 = .ok (.ldc2_w 74, 3) := by decide +kernel
theorem dX6_digestOn_17 : decode cX6_digestOn 17 = .ok (.lload_n 3, 1) := by decide +kernel
theorem dX6_digestOn_18 : decode cX6_digestOn 18 = .ok (.lmul, 1) := by decide +kernel
theorem dX6_digestOn_19 : decode cX6_digestOn 19 = .ok (.aload_n 0, 1) := by decide +kernel
theorem dX6_digestOn_20 : decode cX6_digestOn 20 = .ok (.getfield 15, 3) := by decide +kernel
theorem dX6_digestOn_23 : decode cX6_digestOn 23 = .ok (.iload 5, 2) := by decide +kernel
theorem dX6_digestOn_25 : decode cX6_digestOn 25 = .ok (.iaload, 1) := by decide +kernel
theorem dX6_digestOn_26 : decode cX6_digestOn 26 = .ok (.i2l, 1) := by decide +kernel
theorem dX6_digestOn_27 : decode cX6_digestOn 27 = .ok (.ladd, 1) := by decide +kernel
theorem dX6_digestOn_28 : decode cX6_digestOn 28 = .ok (.lstore_n 3, 1) := by decide +kernel
theorem dX6_digestOn_29 : decode cX6_digestOn 29 = .ok (.ldc2_w 74, 3) := by decide +kernel
theorem dX6_digestOn_32 : decode cX6_digestOn 32 = .ok (.lload_n 3, 1) := by decide +kernel
theorem dX6_digestOn_33 : decode cX6_digestOn 33 = .ok (.lmul, 1) := by decide +kernel
theorem dX6_digestOn_34 : decode cX6_digestOn 34 = .ok (.aload_n 0, 1) := by decide +kernel
theorem dX6_digestOn_35 : decode cX6_digestOn 35 = .ok (.getfield 19, 3) := by decide +kernel
theorem dX6_digestOn_38 : decode cX6_digestOn 38 = .ok (.iload 5, 2) := by decide +kernel
theorem dX6_digestOn_40 : decode cX6_digestOn 40 = .ok (.iaload, 1) := by decide +kernel
theorem dX6_digestOn_41 : decode cX6_digestOn 41 = .ok (.i2l, 1) := by decide +kernel
theorem dX6_digestOn_42 : decode cX6_digestOn 42 = .ok (.ladd, 1) := by decide +kernel
theorem dX6_digestOn_43 : decode cX6_digestOn 43 = .ok (.lstore_n 3, 1) := by decide +kernel
theorem dX6_digestOn_44 : decode cX6_digestOn 44 = .ok (.ldc2_w 74, 3) := by decide +kernel
theorem dX6_digestOn_47 : decode cX6_digestOn 47 = .ok (.lload_n 3, 1) := by decide +kernel
theorem dX6_digestOn_48 : decode cX6_digestOn 48 = .ok (.lmul, 1) := by decide +kernel
theorem dX6_digestOn_49 : decode cX6_digestOn 49 = .ok (.aload_n 0, 1) := by decide +kernel
theorem dX6_digestOn_50 : decode cX6_digestOn 50 = .ok (.getfield 22, 3) := by decide +kernel
theorem dX6_digestOn_53 : decode cX6_digestOn 53 = .ok (.iload 5, 2) := by decide +kernel
theorem dX6_digestOn_55 : decode cX6_digestOn 55 = .ok (.iaload, 1) := by decide +kernel
theorem dX6_digestOn_56 : decode cX6_digestOn 56 = .ok (.i2l, 1) := by decide +kernel
theorem dX6_digestOn_57 : decode cX6_digestOn 57 = .ok (.ladd, 1) := by decide +kernel
theorem dX6_digestOn_58 : decode cX6_digestOn 58 = .ok (.lstore_n 3, 1) := by decide +kernel
theorem dX6_digestOn_59 : decode cX6_digestOn 59 = .ok (.ldc2_w 74, 3) := by decide +kernel
theorem dX6_digestOn_62 : decode cX6_digestOn 62 = .ok (.lload_n 3, 1) := by decide +kernel
theorem dX6_digestOn_63 : decode cX6_digestOn 63 = .ok (.lmul, 1) := by decide +kernel
theorem dX6_digestOn_64 : decode cX6_digestOn 64 = .ok (.aload_n 0, 1) := by decide +kernel
theorem dX6_digestOn_65 : decode cX6_digestOn 65 = .ok (.getfield 25, 3) := by decide +kernel
theorem dX6_digestOn_68 : decode cX6_digestOn 68 = .ok (.iload 5, 2) := by decide +kernel
theorem dX6_digestOn_70 : decode cX6_digestOn 70 = .ok (.iaload, 1) := by decide +kernel
theorem dX6_digestOn_71 : decode cX6_digestOn 71 = .ok (.i2l, 1) := by decide +kernel
theorem dX6_digestOn_72 : decode cX6_digestOn 72 = .ok (.ladd, 1) := by decide +kernel
theorem dX6_digestOn_73 : decode cX6_digestOn 73 = .ok (.lstore_n 3, 1) := by decide +kernel
theorem dX6_digestOn_74 : decode cX6_digestOn 74 = .ok (.ldc2_w 74, 3) := by decide +kernel
theorem dX6_digestOn_77 : decode cX6_digestOn 77 = .ok (.lload_n 3, 1) := by decide +kernel
theorem dX6_digestOn_78 : decode cX6_digestOn 78 = .ok (.lmul, 1) := by decide +kernel
theorem dX6_digestOn_79 : decode cX6_digestOn 79 = .ok (.aload_n 0, 1) := by decide +kernel
theorem dX6_digestOn_80 : decode cX6_digestOn 80 = .ok (.getfield 28, 3) := by decide +kernel
theorem dX6_digestOn_83 : decode cX6_digestOn 83 = .ok (.iload 5, 2) := by decide +kernel
theorem dX6_digestOn_85 : decode cX6_digestOn 85 = .ok (.iaload, 1) := by decide +kernel
theorem dX6_digestOn_86 : decode cX6_digestOn 86 = .ok (.i2l, 1) := by decide +kernel
theorem dX6_digestOn_87 : decode cX6_digestOn 87 = .ok (.ladd, 1) := by decide +kernel
theorem dX6_digestOn_88 : decode cX6_digestOn 88 = .ok (.lstore_n 3, 1) := by decide +kernel
theorem dX6_digestOn_89 : decode cX6_digestOn 89 = .ok (.iinc 5 1, 3) := by decide +kernel
theorem dX6_digestOn_92 : decode cX6_digestOn 92 = .ok (.goto (-87), 3) := by decide +kernel
theorem dX6_digestOn_95 : decode cX6_digestOn 95 = .ok (.iconst 0, 1) := by decide +kernel
theorem dX6_digestOn_96 : decode cX6_digestOn 96 = .ok (.istore 5, 2) := by decide +kernel
theorem dX6_digestOn_98 : decode cX6_digestOn 98 = .ok (.iload 5, 2) := by decide +kernel
theorem dX6_digestOn_100 : decode cX6_digestOn 100 = .ok (.aload_n 0, 1) := by decide +kernel
theorem dX6_digestOn_101 : decode cX6_digestOn 101 = .ok (.getfield 59, 3) := by decide +kernel
theorem dX6_digestOn_104 : decode cX6_digestOn 104 = .ok (.if_icmp .ge 24, 3) := by decide +kernel
theorem dX6_digestOn_107 : decode cX6_digestOn 107 = .ok (.ldc2_w 74, 3) := by decide +kernel
theorem dX6_digestOn_110 : decode cX6_digestOn 110 = .ok (.lload_n 3, 1) := by decide +kernel
theorem dX6_digestOn_111 : decode cX6_digestOn 111 = .ok (.lmul, 1) := by decide +kernel
theorem dX6_digestOn_112 : decode cX6_digestOn 112 = .ok (.aload_n 0, 1) := by decide +kernel
theorem dX6_digestOn_113 : decode cX6_digestOn 113 = .ok (.getfield 31, 3) := by decide +kernel
theorem dX6_digestOn_116 : decode cX6_digestOn 116 = .ok (.iload 5, 2) := by decide +kernel
theorem dX6_digestOn_118 : decode cX6_digestOn 118 = .ok (.iaload, 1) := by decide +kernel
theorem dX6_digestOn_119 : decode cX6_digestOn 119 = .ok (.i2l, 1) := by decide +kernel
theorem dX6_digestOn_120 : decode cX6_digestOn 120 = .ok (.ladd, 1) := by decide +kernel
theorem dX6_digestOn_121 : decode cX6_digestOn 121 = .ok (.lstore_n 3, 1) := by decide +kernel
theorem dX6_digestOn_122 : decode cX6_digestOn 122 = .ok (.iinc 5 1, 3) := by decide +kernel
theorem dX6_digestOn_125 : decode cX6_digestOn 125 = .ok (.goto (-27), 3) := by decide +kernel
theorem dX6_digestOn_128 : decode cX6_digestOn 128 = .ok (.iconst 0, 1) := by decide +kernel
theorem dX6_digestOn_129 : decode cX6_digestOn 129 = .ok (.istore 5, 2) := by decide +kernel
theorem dX6_digestOn_131 : decode cX6_digestOn 131 = .ok (.iload 5, 2) := by decide +kernel
theorem dX6_digestOn_133 : decode cX6_digestOn 133 = .ok (.aload_n 0, 1) := by decide +kernel
theorem dX6_digestOn_134 : decode cX6_digestOn 134 = .ok (.getfield 62, 3) := by decide +kernel
theorem dX6_digestOn_137 : decode cX6_digestOn 137 = .ok (.if_icmp .ge 54, 3) := by decide +kernel
theorem dX6_digestOn_140 : decode cX6_digestOn 140 = .ok (.ldc2_w 74, 3) := by decide +kernel
theorem dX6_digestOn_143 : decode cX6_digestOn 143 = .ok (.lload_n 3, 1) := by decide +kernel
theorem dX6_digestOn_144 : decode cX6_digestOn 144 = .ok (.lmul, 1) := by decide +kernel
theorem dX6_digestOn_145 : decode cX6_digestOn 145 = .ok (.aload_n 0, 1) := by decide +kernel
theorem dX6_digestOn_146 : decode cX6_digestOn 146 = .ok (.getfield 34, 3) := by decide +kernel
theorem dX6_digestOn_149 : decode cX6_digestOn 149 = .ok (.iload 5, 2) := by decide +kernel
theorem dX6_digestOn_151 : decode cX6_digestOn 151 = .ok (.iaload, 1) := by decide +kernel
theorem dX6_digestOn_152 : decode cX6_digestOn 152 = .ok (.i2l, 1) := by decide +kernel
theorem dX6_digestOn_153 : decode cX6_digestOn 153 = .ok (.ladd, 1) := by decide +kernel
theorem dX6_digestOn_154 : decode cX6_digestOn 154 = .ok (.lstore_n 3, 1) := by decide +kernel
theorem dX6_digestOn_155 : decode cX6_digestOn 155 = .ok (.ldc2_w 74, 3) := by decide +kernel
theorem dX6_digestOn_158 : decode cX6_digestOn 158 = .ok (.lload_n 3, 1) := by decide +kernel
theorem dX6_digestOn_159 : decode cX6_digestOn 159 = .ok (.lmul, 1) := by decide +kernel
theorem dX6_digestOn_160 : decode cX6_digestOn 160 = .ok (.aload_n 0, 1) := by decide +kernel
theorem dX6_digestOn_161 : decode cX6_digestOn 161 = .ok (.getfield 37, 3) := by decide +kernel
theorem dX6_digestOn_164 : decode cX6_digestOn 164 = .ok (.iload 5, 2) := by decide +kernel
theorem dX6_digestOn_166 : decode cX6_digestOn 166 = .ok (.iaload, 1) := by decide +kernel
theorem dX6_digestOn_167 : decode cX6_digestOn 167 = .ok (.i2l, 1) := by decide +kernel
theorem dX6_digestOn_168 : decode cX6_digestOn 168 = .ok (.ladd, 1) := by decide +kernel
theorem dX6_digestOn_169 : decode cX6_digestOn 169 = .ok (.lstore_n 3, 1) := by decide +kernel
theorem dX6_digestOn_170 : decode cX6_digestOn 170 = .ok (.ldc2_w 74, 3) := by decide +kernel
theorem dX6_digestOn_173 : decode cX6_digestOn 173 = .ok (.lload_n 3, 1) := by decide +kernel
theorem dX6_digestOn_174 : decode cX6_digestOn 174 = .ok (.lmul, 1) := by decide +kernel
theorem dX6_digestOn_175 : decode cX6_digestOn 175 = .ok (.aload_n 0, 1) := by decide +kernel
theorem dX6_digestOn_176 : decode cX6_digestOn 176 = .ok (.getfield 40, 3) := by decide +kernel
theorem dX6_digestOn_179 : decode cX6_digestOn 179 = .ok (.iload 5, 2) := by decide +kernel
theorem dX6_digestOn_181 : decode cX6_digestOn 181 = .ok (.iaload, 1) := by decide +kernel
theorem dX6_digestOn_182 : decode cX6_digestOn 182 = .ok (.i2l, 1) := by decide +kernel
theorem dX6_digestOn_183 : decode cX6_digestOn 183 = .ok (.ladd, 1) := by decide +kernel
theorem dX6_digestOn_184 : decode cX6_digestOn 184 = .ok (.lstore_n 3, 1) := by decide +kernel
theorem dX6_digestOn_185 : decode cX6_digestOn 185 = .ok (.iinc 5 1, 3) := by decide +kernel
theorem dX6_digestOn_188 : decode cX6_digestOn 188 = .ok (.goto (-57), 3) := by decide +kernel
theorem dX6_digestOn_191 : decode cX6_digestOn 191 = .ok (.lload_n 3, 1) := by decide +kernel
theorem dX6_digestOn_192 : decode cX6_digestOn 192 = .ok (.lreturn, 1) := by decide +kernel
theorem dX7_init_0 : decode cX7_init 0 = .ok (.aload_n 0, 1) := by decide +kernel
theorem dX7_init_1 : decode cX7_init 1 = .ok (.invokespecial 3, 3) := by decide +kernel
theorem dX7_init_4 : decode cX7_init 4 = .ok (.aload_n 0, 1) := by decide +kernel
theorem dX7_init_5 : decode cX7_init 5 = .ok (.sipush 150, 3) := by decide +kernel
theorem dX7_init_8 : decode cX7_init 8 = .ok (.newarray .int, 2) := by decide +kernel
theorem dX7_init_10 : decode cX7_init 10 = .ok (.putfield 9, 3) := by decide +kernel
theorem dX7_init_13 : decode cX7_init 13 = .ok (.return_, 1) := by decide +kernel
theorem dX7_append_0 : decode cX7_append 0 = .ok (.aload_n 0, 1) := by decide +kernel
theorem dX7_append_1 : decode cX7_append 1 = .ok (.getfield 15, 3) := by decide +kernel
theorem dX7_append_4 : decode cX7_append 4 = .ok (.sipush 150, 3) := by decide +kernel
theorem dX7_append_7 : decode cX7_append 7 = .ok (.if_icmp .ge 23, 3) := by decide +kernel
theorem dX7_append_10 : decode cX7_append 10 = .ok (.aload_n 0, 1) := by decide +kernel
theorem dX7_append_11 : decode cX7_append 11 = .ok (.getfield 9, 3) := by decide +kernel
theorem dX7_append_14 : decode cX7_append 14 = .ok (.aload_n 0, 1) := by decide +kernel
theorem dX7_append_15 : decode cX7_append 15 = .ok (.getfield 15, 3) := by decide +kernel
theorem dX7_append_18 : decode cX7_append 18 = .ok (.iload_n 1, 1) := by decide +kernel
theorem dX7_append_19 : decode cX7_append 19 = .ok (.iastore, 1) := by decide +kernel
theorem dX7_append_20 : decode cX7_append 20 = .ok (.aload_n 0, 1) := by decide +kernel
theorem dX7_append_21 : decode cX7_append 21 = .ok (.dup, 1) := by decide +kernel
theorem dX7_append_22 : decode cX7_append 22 = .ok (.getfield 15, 3) := by decide +kernel
theorem dX7_append_25 : decode cX7_append 25 = .ok (.iconst 1, 1) := by decide +kernel
theorem dX7_append_26 : decode cX7_append 26 = .ok (.iadd, 1) := by decide +kernel
theorem dX7_append_27 : decode cX7_append 27 = .ok (.putfield 15, 3) := by decide +kernel
theorem dX7_append_30 : decode cX7_append 30 = .ok (.return_, 1) := by decide +kernel
theorem dX7_readInto_0 : decode cX7_readInto 0 = .ok (.aload_n 0, 1) := by decide +kernel
theorem dX7_readInto_1 : decode cX7_readInto 1 = .ok (.iconst 0, 1) := by decide +kernel
theorem dX7_readInto_2 : decode cX7_readInto 2 = .ok (.putfield 19, 3) := by decide +kernel
theorem dX7_readInto_5 : decode cX7_readInto 5 = .ok (.iconst 0, 1) := by decide +kernel
theorem dX7_readInto_6 : decode cX7_readInto 6 = .ok (.istore_n 2, 1) := by decide +kernel
theorem dX7_readInto_7 : decode cX7_readInto 7 = .ok (.iload_n 2, 1) := by decide +kernel
theorem dX7_readInto_8 : decode cX7_readInto 8 = .ok (.bipush 6, 2) := by decide +kernel
theorem dX7_readInto_10 : decode cX7_readInto 10 = .ok (.if_icmp .gt 46, 3) := by decide +kernel
theorem dX7_readInto_13 : decode cX7_readInto 13 = .ok (.aload_n 0, 1) := by decide +kernel
theorem dX7_readInto_14 : decode cX7_readInto 14 = .ok (.invokevirtual 22, 3) := by decide +kernel
theorem dX7_readInto_17 : decode cX7_readInto 17 = .ok (.ifCond .ne 39, 3) := by decide +kernel
theorem dX7_readInto_20 : decode cX7_readInto 20 = .ok (.iload_n 2, 1) := by decide +kernel
theorem dX7_readInto_21 : decode cX7_readInto 21 = .ok (.ifCond .ne 11, 3) := by decide +kernel
theorem dX7_readInto_24 : decode cX7_readInto 24 = .ok (.aload_n 0, 1) := by decide +kernel
theorem dX7_readInto_25 : decode cX7_readInto 25 = .ok (.aload_n 1, 1) := by decide +kernel
theorem dX7_readInto_26 : decode cX7_readInto 26 = .ok (.invokevirtual 26, 3) := by decide +kernel
theorem dX7_readInto_29 : decode cX7_readInto 29 = .ok (.goto 8, 3) := by decide +kernel
theorem dX7_readInto_32 : decode cX7_readInto 32 = .ok (.aload_n 0, 1) := by decide +kernel
theorem dX7_readInto_33 : decode cX7_readInto 33 = .ok (.aload_n 1, 1) := by decide +kernel
theorem dX7_readInto_34 : decode cX7_readInto 34 = .ok (.invokevirtual 30, 3) := by decide +kernel
theorem dX7_readInto_37 : decode cX7_readInto 37 = .ok (.istore_n 3, 1) := by decide +kernel
theorem dX7_readInto_38 : decode cX7_readInto 38 = .ok (.iload_n 3, 1) := by decide +kernel
theorem dX7_readInto_39 : decode cX7_readInto 39 = .ok (.ifCond .ne 11, 3) := by decide +kernel
theorem dX7_readInto_42 : decode cX7_readInto 42 = .ok (.bipush (-10), 2) := by decide +kernel
theorem dX7_readInto_44 : decode cX7_readInto 44 = .ok (.aload_n 0, 1) := by decide +kernel
theorem dX7_readInto_45 : decode cX7_readInto 45 = .ok (.getfield 19, 3) := by decide +kernel
theorem dX7_readInto_48 : decode cX7_readInto 48 = .ok (.isub, 1) := by decide +kernel
theorem dX7_readInto_49 : decode cX7_readInto 49 = .ok (.ireturn, 1) := by decide +kernel
theorem dX7_readInto_50 : decode cX7_readInto 50 = .ok (.iinc 2 1, 3) := by decide +kernel
theorem dX7_readInto_53 : decode cX7_readInto 53 = .ok (.goto (-46), 3) := by decide +kernel
theorem dX7_readInto_56 : decode cX7_readInto 56 = .ok (.iload_n 2, 1) := by decide +kernel
theorem dX7_readInto_57 : decode cX7_readInto 57 = .ok (.ifCond .eq 10, 3) := by decide +kernel
theorem dX7_readInto_60 : decode cX7_readInto 60 = .ok (.aload_n 0, 1) := by decide +kernel
theorem dX7_readInto_61 : decode cX7_readInto 61 = .ok (.invokevirtual 22, 3) := by decide +kernel
theorem dX7_readInto_64 : decode cX7_readInto 64 = .ok (.ifCond .ne 13, 3) := by decide +kernel
theorem dX7_readInto_67 : decode cX7_readInto 67 = .ok (.bipush (-10), 2) := by decide +kernel
theorem dX7_readInto_69 : decode cX7_readInto 69 = .ok (.aload_n 0, 1) := by decide +kernel
theorem dX7_readInto_70 : decode cX7_readInto 70 = .ok (.getfield 19, 3) := by decide +kernel
theorem dX7_readInto_73 : decode cX7_readInto 73 = .ok (.isub, 1) := by decide +kernel
theorem dX7_readInto_74 : decode cX7_readInto 74 = .ok (.goto 4, 3) := by decide +kernel
theorem dX7_readInto_77 : decode cX7_readInto 77 = .ok (.iload_n 2, 1) := by decide +kernel
theorem dX7_readInto_78 : decode cX7_readInto 78 = .ok (.ireturn, 1) := by decide +kernel
theorem dX7_readRoadItem_0 : decode cX7_readRoadItem 0 = .ok (.aload_n 0, 1) := by decide +kernel
theorem dX7_readRoadItem_1 : decode cX7_readRoadItem 1 = .ok (.ldc 33, 2) := by decide +kernel
theorem dX7_readRoadItem_3 : decode cX7_readRoadItem 3 = .ok (.invokevirtual 35, 3) := by decide +kernel
theorem dX7_readRoadItem_6 : decode cX7_readRoadItem 6 = .ok (.ifCond .ne 5, 3) := by decide +kernel
theorem dX7_readRoadItem_9 : decode cX7_readRoadItem 9 = .ok (.iconst 0, 1) := by decide +kernel
theorem dX7_readRoadItem_10 : decode cX7_readRoadItem 10 = .ok (.ireturn, 1) := by decide +kernel
theorem dX7_readRoadItem_11 : decode cX7_readRoadItem 11 = .ok (.aload_n 0, 1) := by decide +kernel
theorem dX7_readRoadItem_12 : decode cX7_readRoadItem 12 = .ok (.iconst 0, 1) := by decide +kernel
theorem dX7_readRoadItem_13 : decode cX7_readRoadItem 13 = .ok (.bipush 47, 2) := by decide +kernel
theorem dX7_readRoadItem_15 : decode cX7_readRoadItem 15 = .ok (.invokevirtual 39, 3) := by decide +kernel
theorem dX7_readRoadItem_18 : decode cX7_readRoadItem 18 = .ok (.istore_n 2, 1) := by decide +kernel
theorem dX7_readRoadItem_19 : decode cX7_readRoadItem 19 = .ok (.iload_n 2, 1) := by decide +kernel
theorem dX7_readRoadItem_20 : decode cX7_readRoadItem 20 = .ok (.ifCond .ge 7, 3) := by decide +kernel
theorem dX7_readRoadItem_23 : decode cX7_readRoadItem 23 = .ok (.iconst (-1), 1) := by decide +kernel
theorem dX7_readRoadItem_24 : decode cX7_readRoadItem 24 = .ok (.goto 9, 3) := by decide +kernel
theorem dX7_readRoadItem_27 : decode cX7_readRoadItem 27 = .ok (.aload_n 0, 1) := by decide +kernel
theorem dX7_readRoadItem_28 : decode cX7_readRoadItem 28 = .ok (.iconst 0, 1) := by decide +kernel
theorem dX7_readRoadItem_29 : decode cX7_readRoadItem 29 = .ok (.iconst 2, 1) := by decide +kernel
theorem dX7_readRoadItem_30 : decode cX7_readRoadItem 30 = .ok (.invokevirtual 39, 3) := by decide +kernel
theorem dX7_readRoadItem_33 : decode cX7_readRoadItem 33 = .ok (.istore_n 3, 1) := by decide +kernel
theorem dX7_readRoadItem_34 : decode cX7_readRoadItem 34 = .ok (.iload_n 3, 1) := by decide +kernel
theorem dX7_readRoadItem_35 : decode cX7_readRoadItem 35 = .ok (.ifCond .lt 10, 3) := by decide +kernel
theorem dX7_readRoadItem_38 : decode cX7_readRoadItem 38 = .ok (.aload_n 0, 1) := by decide +kernel
theorem dX7_readRoadItem_39 : decode cX7_readRoadItem 39 = .ok (.invokevirtual 43, 3) := by decide +kernel
theorem dX7_readRoadItem_42 : decode cX7_readRoadItem 42 = .ok (.ifCond .ne 5, 3) := by decide +kernel
theorem dX7_readRoadItem_45 : decode cX7_readRoadItem 45 = .ok (.iconst 0, 1) := by decide +kernel
theorem dX7_readRoadItem_46 : decode cX7_readRoadItem 46 = .ok (.ireturn, 1) := by decide +kernel
theorem dX7_readRoadItem_47 : decode cX7_readRoadItem 47 = .ok (.aload_n 1, 1) := by decide +kernel
theorem dX7_readRoadItem_48 : decode cX7_readRoadItem 48 = .ok (.iload_n 2, 1) := by decide +kernel
theorem dX7_readRoadItem_49 : decode cX7_readRoadItem 49 = .ok (.iload_n 3, 1) := by decide +kernel
theorem dX7_readRoadItem_50 : decode cX7_readRoadItem 50 = .ok (.invokevirtual 46, 3) := by decide +kernel
theorem dX7_readRoadItem_53 : decode cX7_readRoadItem 53 = .ok (.iconst 1, 1) := by decide +kernel
theorem dX7_readRoadItem_54 : decode cX7_readRoadItem 54 = .ok (.ireturn, 1) := by decide +kernel
theorem dX7_readChildItem_0 : decode cX7_readChildItem 0 = .ok (.aload_n 0, 1) := by decide +kernel
theorem dX7_readChildItem_1 : decode cX7_readChildItem 1 = .ok (.ldc 52, 2) := by decide +kernel
theorem dX7_readChildItem_3 : decode cX7_readChildItem 3 = .ok (.invokevirtual 35, 3) := by decide +kernel
theorem dX7_readChildItem_6 : decode cX7_readChildItem 6 = .ok (.ifCond .ne 5, 3) := by decide +kernel
theorem dX7_readChildItem_9 : decode cX7_readChildItem 9 = .ok (.iconst 0, 1) := by decide +kernel
theorem dX7_readChildItem_10 : decode cX7_readChildItem 10 = .ok (.ireturn, 1) := by decide +kernel
theorem dX7_readChildItem_11 : decode cX7_readChildItem 11 = .ok (.aload_n 0, 1) := by decide +kernel
theorem dX7_readChildItem_12 : decode cX7_readChildItem 12 = .ok (.iconst 0, 1) := by decide +kernel
theorem dX7_readChildItem_13 : decode cX7_readChildItem 13 = .ok (.iconst 5, 1) := by decide +kernel
theorem dX7_readChildItem_14 : decode cX7_readChildItem 14 = .ok (.invokevirtual 39, 3) := by decide +kernel
theorem dX7_readChildItem_17 : decode cX7_readChildItem 17 = .ok (.istore_n 2, 1) := by decide +kernel
theorem dX7_readChildItem_18 : decode cX7_readChildItem 18 = .ok (.iload_n 2, 1) := by decide +kernel
theorem dX7_readChildItem_19 : decode cX7_readChildItem 19 = .ok (.ifCond .ge 7, 3) := by decide +kernel
theorem dX7_readChildItem_22 : decode cX7_readChildItem 22 = .ok (.iconst (-1), 1) := by decide +kernel
theorem dX7_readChildItem_23 : decode cX7_readChildItem 23 = .ok (.goto 10, 3) := by decide +kernel
theorem dX7_readChildItem_26 : decode cX7_readChildItem 26 = .ok (.aload_n 0, 1) := by decide +kernel
theorem dX7_readChildItem_27 : decode cX7_readChildItem 27 = .ok (.iconst 1, 1) := by decide +kernel
theorem dX7_readChildItem_28 : decode cX7_readChildItem 28 = .ok (.bipush 9, 2) := by decide +kernel
theorem dX7_readChildItem_30 : decode cX7_readChildItem 30 = .ok (.invokevirtual 39, 3) := by decide +kernel
theorem dX7_readChildItem_33 : decode cX7_readChildItem 33 = .ok (.istore_n 3, 1) := by decide +kernel
theorem dX7_readChildItem_34 : decode cX7_readChildItem 34 = .ok (.iload_n 3, 1) := by decide +kernel
theorem dX7_readChildItem_35 : decode cX7_readChildItem 35 = .ok (.ifCond .ge 7, 3) := by decide +kernel
theorem dX7_readChildItem_38 : decode cX7_readChildItem 38 = .ok (.iconst (-1), 1) := by decide +kernel
theorem dX7_readChildItem_39 : decode cX7_readChildItem 39 = .ok (.goto 10, 3) := by decide +kernel
theorem dX7_readChildItem_42 : decode cX7_readChildItem 42 = .ok (.aload_n 0, 1) := by decide +kernel
theorem dX7_readChildItem_43 : decode cX7_readChildItem 43 = .ok (.iconst 0, 1) := by decide +kernel
theorem dX7_readChildItem_44 : decode cX7_readChildItem 44 = .ok (.bipush 47, 2) := by decide +kernel
theorem dX7_readChildItem_46 : decode cX7_readChildItem 46 = .ok (.invokevirtual 39, 3) := by decide +kernel
theorem dX7_readChildItem_49 : decode cX7_readChildItem 49 = .ok (.istore 4, 2) := by decide +kernel
theorem dX7_readChildItem_51 : decode cX7_readChildItem 51 = .ok (.iload 4, 2) := by decide +kernel
theorem dX7_readChildItem_53 : decode cX7_readChildItem 53 = .ok (.ifCond .ge 7, 3) := by decide +kernel
theorem dX7_readChildItem_56 : decode cX7_readChildItem 56 = .ok (.iconst (-1), 1) := by decide +kernel
theorem dX7_readChildItem_57 : decode cX7_readChildItem 57 = .ok (.goto 9, 3) := by decide +kernel
theorem dX7_readChildItem_60 : decode cX7_readChildItem 60 = .ok (.aload_n 0, 1) := by decide +kernel
theorem dX7_readChildItem_61 : decode cX7_readChildItem 61 = .ok (.iconst 0, 1) := by decide +kernel
theorem dX7_readChildItem_62 : decode cX7_readChildItem 62 = .ok (.iconst 3, 1) := by decide +kernel
theorem dX7_readChildItem_63 : decode cX7_readChildItem 63 = .ok (.invokevirtual 39, 3) := by decide +kernel
theorem dX7_readChildItem_66 : decode cX7_readChildItem 66 = .ok (.istore 5, 2) := by decide +kernel
theorem dX7_readChildItem_68 : decode cX7_readChildItem 68 = .ok (.iload 5, 2) := by decide +kernel
theorem dX7_readChildItem_70 : decode cX7_readChildItem 70 = .ok (.ifCond .ge 7, 3) := by decide +kernel
theorem dX7_readChildItem_73 : decode cX7_readChildItem 73 = .ok (.iconst (-1), 1) := by decide +kernel
theorem dX7_readChildItem_74 : decode cX7_readChildItem 74 = .ok (.goto 10, 3) := by decide +kernel
theorem dX7_readChildItem_77 : decode cX7_readChildItem 77 = .ok (.aload_n 0, 1) := by decide +kernel
theorem dX7_readChildItem_78 : decode cX7_readChildItem 78 = .ok (.iconst 0, 1) := by decide +kernel
theorem dX7_readChildItem_79 : decode cX7_readChildItem 79 = .ok (.bipush 60, 2) := by decide +kernel
theorem dX7_readChildItem_81 : decode cX7_readChildItem 81 = .ok (.invokevirtual 39, 3) := by decide +kernel
theorem dX7_readChildItem_84 : decode cX7_readChildItem 84 = .ok (.istore 6, 2) := by decide +kernel
theorem dX7_readChildItem_86 : decode cX7_readChildItem 86 = .ok (.iload 6, 2) := by decide +kernel
theorem dX7_readChildItem_88 : decode cX7_readChildItem 88 = .ok (.ifCond .lt 10, 3) := by decide +kernel
theorem dX7_readChildItem_91 : decode cX7_readChildItem 91 = .ok (.aload_n 0, 1) := by decide +kernel
theorem dX7_readChildItem_92 : decode cX7_readChildItem 92 = .ok (.invokevirtual 43, 3) := by decide +kernel
theorem dX7_readChildItem_95 : decode cX7_readChildItem 95 = .ok (.ifCond .ne 5, 3) := by decide +kernel
theorem dX7_readChildItem_98 : decode cX7_readChildItem 98 = .ok (.iconst 0, 1) := by decide +kernel
theorem dX7_readChildItem_99 : decode cX7_readChildItem 99 = .ok (.ireturn, 1) := by decide +kernel
theorem dX7_readChildItem_100 : decode cX7_readChildItem 100 = .ok (.aload_n 1, 1) := by decide +kernel
theorem dX7_readChildItem_101 : decode cX7_readChildItem 101 = .ok (.iload_n 2, 1) := by decide +kernel
theorem dX7_readChildItem_102 : decode cX7_readChildItem 102 = .ok (.iload_n 3, 1) := by decide +kernel
theorem dX7_readChildItem_103 : decode cX7_readChildItem 103 = .ok (.iload 4, 2) := by decide +kernel
theorem dX7_readChildItem_105 : decode cX7_readChildItem 105 = .ok (.iload 5, 2) := by decide +kernel
theorem dX7_readChildItem_107 : decode cX7_readChildItem 107 = .ok (.iload 6, 2) := by decide +kernel
theorem dX7_readChildItem_109 : decode cX7_readChildItem 109 = .ok (.invokevirtual 54, 3) := by decide +kernel
theorem dX7_readChildItem_112 : decode cX7_readChildItem 112 = .ok (.iconst 1, 1) := by decide +kernel
theorem dX7_readChildItem_113 : decode cX7_readChildItem 113 = .ok (.ireturn, 1) := by decide +kernel
theorem dX7_isAtEnd_0 : decode cX7_isAtEnd 0 = .ok (.aload_n 0, 1) := by decide +kernel
theorem dX7_isAtEnd_1 : decode cX7_isAtEnd 1 = .ok (.getfield 19, 3) := by decide +kernel
theorem dX7_isAtEnd_4 : decode cX7_isAtEnd 4 = .ok (.aload_n 0, 1) := by decide +kernel
theorem dX7_isAtEnd_5 : decode cX7_isAtEnd 5 = .ok (.getfield 15, 3) := by decide +kernel
theorem dX7_isAtEnd_8 : decode cX7_isAtEnd 8 = .ok (.if_icmp .ge 30, 3) := by decide +kernel
theorem dX7_isAtEnd_11 : decode cX7_isAtEnd 11 = .ok (.aload_n 0, 1) := by decide +kernel
theorem dX7_isAtEnd_12 : decode cX7_isAtEnd 12 = .ok (.getfield 9, 3) := by decide +kernel
theorem dX7_isAtEnd_15 : decode cX7_isAtEnd 15 = .ok (.aload_n 0, 1) := by decide +kernel
theorem dX7_isAtEnd_16 : decode cX7_isAtEnd 16 = .ok (.getfield 19, 3) := by decide +kernel
theorem dX7_isAtEnd_19 : decode cX7_isAtEnd 19 = .ok (.iaload, 1) := by decide +kernel
theorem dX7_isAtEnd_20 : decode cX7_isAtEnd 20 = .ok (.bipush 32, 2) := by decide +kernel
theorem dX7_isAtEnd_22 : decode cX7_isAtEnd 22 = .ok (.if_icmp .ne 16, 3) := by decide +kernel
theorem dX7_isAtEnd_25 : decode cX7_isAtEnd 25 = .ok (.aload_n 0, 1) := by decide +kernel
theorem dX7_isAtEnd_26 : decode cX7_isAtEnd 26 = .ok (.dup, 1) := by decide +kernel
theorem dX7_isAtEnd_27 : decode cX7_isAtEnd 27 = .ok (.getfield 19, 3) := by decide +kernel
theorem dX7_isAtEnd_30 : decode cX7_isAtEnd 30 = .ok (.iconst 1, 1) := by decide +kernel
theorem dX7_isAtEnd_31 : decode cX7_isAtEnd 31 = .ok (.iadd, 1) := by decide +kernel
theorem dX7_isAtEnd_32 : decode cX7_isAtEnd 32 = .ok (.putfield 19, 3) := by decide +kernel
theorem dX7_isAtEnd_35 : decode cX7_isAtEnd 35 = .ok (.goto (-35), 3) := by decide +kernel
theorem dX7_isAtEnd_38 : decode cX7_isAtEnd 38 = .ok (.aload_n 0, 1) := by decide +kernel
theorem dX7_isAtEnd_39 : decode cX7_isAtEnd 39 = .ok (.getfield 19, 3) := by decide +kernel
theorem dX7_isAtEnd_42 : decode cX7_isAtEnd 42 = .ok (.aload_n 0, 1) := by decide +kernel
theorem dX7_isAtEnd_43 : decode cX7_isAtEnd 43 = .ok (.getfield 15, 3) := by decide +kernel
theorem dX7_isAtEnd_46 : decode cX7_isAtEnd 46 = .ok (.if_icmp .lt 7, 3) := by decide +kernel
theorem dX7_isAtEnd_49 : decode cX7_isAtEnd 49 = .ok (.iconst 1, 1) := by decide +kernel
theorem dX7_isAtEnd_50 : decode cX7_isAtEnd 50 = .ok (.goto 4, 3) := by decide +kernel
theorem dX7_isAtEnd_53 : decode cX7_isAtEnd 53 = .ok (.iconst 0, 1) := by decide +kernel
theorem dX7_isAtEnd_54 : decode cX7_isAtEnd 54 = .ok (.ireturn, 1) := by decide +kernel
theorem dX7_readWord_0 : decode cX7_readWord 0 = .ok (.aload_n 0, 1) := by decide +kernel
theorem dX7_readWord_1 : decode cX7_readWord 1 = .ok (.invokevirtual 22, 3) := by decide +kernel
theorem dX7_readWord_4 : decode cX7_readWord 4 = .ok (.ifCond .eq 5, 3) := by decide +kernel
theorem dX7_readWord_7 : decode cX7_readWord 7 = .ok (.iconst 0, 1) := by decide +kernel
theorem dX7_readWord_8 : decode cX7_readWord 8 = .ok (.ireturn, 1) := by decide +kernel
theorem dX7_readWord_9 : decode cX7_readWord 9 = .ok (.aload_n 0, 1) := by decide +kernel
theorem dX7_readWord_10 : decode cX7_readWord 10 = .ok (.bipush 97, 2) := by decide +kernel
theorem dX7_readWord_12 : decode cX7_readWord 12 = .ok (.bipush 122, 2) := by decide +kernel
theorem dX7_readWord_14 : decode cX7_readWord 14 = .ok (.invokevirtual 58, 3) := by decide +kernel
theorem dX7_readWord_17 : decode cX7_readWord 17 = .ok (.istore_n 2, 1) := by decide +kernel
theorem dX7_readWord_18 : decode cX7_readWord 18 = .ok (.iload_n 2, 1) := by decide +kernel
theorem dX7_readWord_19 : decode cX7_readWord 19 = .ok (.aload_n 0, 1) := by decide +kernel
theorem dX7_readWord_20 : decode cX7_readWord 20 = .ok (.getfield 19, 3) := by decide +kernel
theorem dX7_readWord_23 : decode cX7_readWord 23 = .ok (.isub, 1) := by decide +kernel
theorem dX7_readWord_24 : decode cX7_readWord 24 = .ok (.aload_n 1, 1) := by decide +kernel
theorem dX7_readWord_25 : decode cX7_readWord 25 = .ok (.invokevirtual 61, 3) := by decide +kernel
theorem dX7_readWord_28 : decode cX7_readWord 28 = .ok (.if_icmp .eq 5, 3) := by decide +kernel
theorem dX7_readWord_31 : decode cX7_readWord 31 = .ok (.iconst 0, 1) := by decide +kernel
theorem dX7_readWord_32 : decode cX7_readWord 32 = .ok (.ireturn, 1) := by decide +kernel
theorem dX7_readWord_33 : decode cX7_readWord 33 = .ok (.iconst 0, 1) := by decide +kernel
theorem dX7_readWord_34 : decode cX7_readWord 34 = .ok (.istore_n 3, 1) := by decide +kernel
theorem dX7_readWord_35 : decode cX7_readWord 35 = .ok (.iload_n 3, 1) := by decide +kernel
theorem dX7_readWord_36 : decode cX7_readWord 36 = .ok (.aload_n 1, 1) := by decide +kernel
theorem dX7_readWord_37 : decode cX7_readWord 37 = .ok (.invokevirtual 61, 3) := by decide +kernel
theorem dX7_readWord_40 : decode cX7_readWord 40 = .ok (.if_icmp .ge 30, 3) := by decide +kernel
theorem dX7_readWord_43 : decode cX7_readWord 43 = .ok (.aload_n 0, 1) := by decide +kernel
theorem dX7_readWord_44 : decode cX7_readWord 44 = .ok (.getfield 9, 3) := by decide +kernel
theorem dX7_readWord_47 : decode cX7_readWord 47 = .ok (.aload_n 0, 1) := by decide +kernel
theorem dX7_readWord_48 : decode cX7_readWord 48 = .ok (.getfield 19, 3) := by decide +kernel
theorem dX7_readWord_51 : decode cX7_readWord 51 = .ok (.iload_n 3, 1) := by decide +kernel
theorem dX7_readWord_52 : decode cX7_readWord 52 = .ok (.iadd, 1) := by decide +kernel
theorem dX7_readWord_53 : decode cX7_readWord 53 = .ok (.iaload, 1) := by decide +kernel
theorem dX7_readWord_54 : decode cX7_readWord 54 = .ok (.aload_n 1, 1) := by decide +kernel
theorem dX7_readWord_55 : decode cX7_readWord 55 = .ok (.iload_n 3, 1) := by decide +kernel
theorem dX7_readWord_56 : decode cX7_readWord 56 = .ok (.invokevirtual 66, 3) := by decide +kernel
theorem dX7_readWord_59 : decode cX7_readWord 59 = .ok (.if_icmp .eq 5, 3) := by decide +kernel
theorem dX7_readWord_62 : decode cX7_readWord 62 = .ok (.iconst 0, 1) := by decide +kernel
theorem dX7_readWord_63 : decode cX7_readWord 63 = .ok (.ireturn, 1) := by decide +kernel
theorem dX7_readWord_64 : decode cX7_readWord 64 = .ok (.iinc 3 1, 3) := by decide +kernel
theorem dX7_readWord_67 : decode cX7_readWord 67 = .ok (.goto (-32), 3) := by decide +kernel
theorem dX7_readWord_70 : decode cX7_readWord 70 = .ok (.aload_n 0, 1) := by decide +kernel
theorem dX7_readWord_71 : decode cX7_readWord 71 = .ok (.iload_n 2, 1) := by decide +kernel
theorem dX7_readWord_72 : decode cX7_readWord 72 = .ok (.putfield 19, 3) := by decide +kernel
theorem dX7_readWord_75 : decode cX7_readWord 75 = .ok (.iconst 1, 1) := by decide +kernel
theorem dX7_readWord_76 : decode cX7_readWord 76 = .ok (.ireturn, 1) := by decide +kernel
theorem dX7_readNumber_0 : decode cX7_readNumber 0 = .ok (.aload_n 0, 1) := by decide +kernel
theorem dX7_readNumber_1 : decode cX7_readNumber 1 = .ok (.invokevirtual 22, 3) := by decide +kernel
theorem dX7_readNumber_4 : decode cX7_readNumber 4 = .ok (.ifCond .eq 5, 3) := by decide +kernel
theorem dX7_readNumber_7 : decode cX7_readNumber 7 = .ok (.iconst (-1), 1) := by decide +kernel
theorem dX7_readNumber_8 : decode cX7_readNumber 8 = .ok (.ireturn, 1) := by decide +kernel
theorem dX7_readNumber_9 : decode cX7_readNumber 9 = .ok (.aload_n 0, 1) := by decide +kernel
theorem dX7_readNumber_10 : decode cX7_readNumber 10 = .ok (.bipush 48, 2) := by decide +kernel
theorem dX7_readNumber_12 : decode cX7_readNumber 12 = .ok (.bipush 57, 2) := by decide +kernel
theorem dX7_readNumber_14 : decode cX7_readNumber 14 = .ok (.invokevirtual 58, 3) := by decide +kernel
theorem dX7_readNumber_17 : decode cX7_readNumber 17 = .ok (.istore_n 3, 1) := by decide +kernel
theorem dX7_readNumber_18 : decode cX7_readNumber 18 = .ok (.iload_n 3, 1) := by decide +kernel
theorem dX7_readNumber_19 : decode cX7_readNumber 19 = .ok (.aload_n 0, 1) := by decide +kernel
theorem dX7_readNumber_20 : decode cX7_readNumber 20 = .ok (.getfield 19, 3) := by decide +kernel
theorem dX7_readNumber_23 : decode cX7_readNumber 23 = .ok (.if_icmp .eq 13, 3) := by decide +kernel
theorem dX7_readNumber_26 : decode cX7_readNumber 26 = .ok (.iload_n 3, 1) := by decide +kernel
theorem dX7_readNumber_27 : decode cX7_readNumber 27 = .ok (.aload_n 0, 1) := by decide +kernel
theorem dX7_readNumber_28 : decode cX7_readNumber 28 = .ok (.getfield 19, 3) := by decide +kernel
theorem dX7_readNumber_31 : decode cX7_readNumber 31 = .ok (.iconst 2, 1) := by decide +kernel
theorem dX7_readNumber_32 : decode cX7_readNumber 32 = .ok (.iadd, 1) := by decide +kernel
theorem dX7_readNumber_33 : decode cX7_readNumber 33 = .ok (.if_icmp .le 5, 3) := by decide +kernel
theorem dX7_readNumber_36 : decode cX7_readNumber 36 = .ok (.iconst (-1), 1) := by decide +kernel
theorem dX7_readNumber_37 : decode cX7_readNumber 37 = .ok (.ireturn, 1) := by decide +kernel
theorem dX7_readNumber_38 : decode cX7_readNumber 38 = .ok (.iconst 0, 1) := by decide +kernel
theorem dX7_readNumber_39 : decode cX7_readNumber 39 = .ok (.istore 4, 2) := by decide +kernel
theorem dX7_readNumber_41 : decode cX7_readNumber 41 = .ok (.aload_n 0, 1) := by decide +kernel
theorem dX7_readNumber_42 : decode cX7_readNumber 42 = .ok (.getfield 19, 3) := by decide +kernel
theorem dX7_readNumber_45 : decode cX7_readNumber 45 = .ok (.istore 5, 2) := by decide +kernel
theorem dX7_readNumber_47 : decode cX7_readNumber 47 = .ok (.iload 5, 2) := by decide +kernel
theorem dX7_readNumber_49 : decode cX7_readNumber 49 = .ok (.iload_n 3, 1) := by decide +kernel
theorem dX7_readNumber_50 : decode cX7_readNumber 50 = .ok (.if_icmp .ge 27, 3) := by decide +kernel
theorem dX7_readNumber_53 : decode cX7_readNumber 53 = .ok (.bipush 10, 2) := by decide +kernel
theorem dX7_readNumber_55 : decode cX7_readNumber 55 = .ok (.iload 4, 2) := by decide +kernel
theorem dX7_readNumber_57 : decode cX7_readNumber 57 = .ok (.imul, 1) := by decide +kernel
theorem dX7_readNumber_58 : decode cX7_readNumber 58 = .ok (.aload_n 0, 1) := by decide +kernel
theorem dX7_readNumber_59 : decode cX7_readNumber 59 = .ok (.getfield 9, 3) := by decide +kernel
theorem dX7_readNumber_62 : decode cX7_readNumber 62 = .ok (.iload 5, 2) := by decide +kernel
theorem dX7_readNumber_64 : decode cX7_readNumber 64 = .ok (.iaload, 1) := by decide +kernel
theorem dX7_readNumber_65 : decode cX7_readNumber 65 = .ok (.iadd, 1) := by decide +kernel
theorem dX7_readNumber_66 : decode cX7_readNumber 66 = .ok (.bipush 48, 2) := by decide +kernel
theorem dX7_readNumber_68 : decode cX7_readNumber 68 = .ok (.isub, 1) := by decide +kernel
theorem dX7_readNumber_69 : decode cX7_readNumber 69 = .ok (.istore 4, 2) := by decide +kernel
theorem dX7_readNumber_71 : decode cX7_readNumber 71 = .ok (.iinc 5 1, 3) := by decide +kernel
theorem dX7_readNumber_74 : decode cX7_readNumber 74 = .ok (.goto (-27), 3) := by decide +kernel
theorem dX7_readNumber_77 : decode cX7_readNumber 77 = .ok (.iload 4, 2) := by decide +kernel
theorem dX7_readNumber_79 : decode cX7_readNumber 79 = .ok (.iload_n 1, 1) := by decide +kernel
theorem dX7_readNumber_80 : decode cX7_readNumber 80 = .ok (.if_icmp .lt 9, 3) := by decide +kernel
theorem dX7_readNumber_83 : decode cX7_readNumber 83 = .ok (.iload 4, 2) := by decide +kernel
theorem dX7_readNumber_85 : decode cX7_readNumber 85 = .ok (.iload_n 2, 1) := by decide +kernel
theorem dX7_readNumber_86 : decode cX7_readNumber 86 = .ok (.if_icmp .le 5, 3) := by decide +kernel
theorem dX7_readNumber_89 : decode cX7_readNumber 89 = .ok (.iconst (-1), 1) := by decide +kernel
theorem dX7_readNumber_90 : decode cX7_readNumber 90 = .ok (.ireturn, 1) := by decide +kernel
theorem dX7_readNumber_91 : decode cX7_readNumber 91 = .ok (.aload_n 0, 1) := by decide +kernel
theorem dX7_readNumber_92 : decode cX7_readNumber 92 = .ok (.iload_n 3, 1) := by decide +kernel
theorem dX7_readNumber_93 : decode cX7_readNumber 93 = .ok (.putfield 19, 3) := by decide +kernel
theorem dX7_readNumber_96 : decode cX7_readNumber 96 = .ok (.iload 4, 2) := by decide +kernel
theorem dX7_readNumber_98 : decode cX7_readNumber 98 = .ok (.ireturn, 1) := by decide +kernel
theorem dX7_readSemicolon_0 : decode cX7_readSemicolon 0 = .ok (.aload_n 0, 1) := by decide +kernel
theorem dX7_readSemicolon_1 : decode cX7_readSemicolon 1 = .ok (.invokevirtual 22, 3) := by decide +kernel
theorem dX7_readSemicolon_4 : decode cX7_readSemicolon 4 = .ok (.ifCond .ne 17, 3) := by decide +kernel
theorem dX7_readSemicolon_7 : decode cX7_readSemicolon 7 = .ok (.aload_n 0, 1) := by decide +kernel
theorem dX7_readSemicolon_8 : decode cX7_readSemicolon 8 = .ok (.getfield 9, 3) := by decide +kernel
theorem dX7_readSemicolon_11 : decode cX7_readSemicolon 11 = .ok (.aload_n 0, 1) := by decide +kernel
theorem dX7_readSemicolon_12 : decode cX7_readSemicolon 12 = .ok (.getfield 19, 3) := by decide +kernel
theorem dX7_readSemicolon_15 : decode cX7_readSemicolon 15 = .ok (.iaload, 1) := by decide +kernel
theorem dX7_readSemicolon_16 : decode cX7_readSemicolon 16 = .ok (.bipush 59, 2) := by decide +kernel
theorem dX7_readSemicolon_18 : decode cX7_readSemicolon 18 = .ok (.if_icmp .eq 5, 3) := by decide +kernel
theorem dX7_readSemicolon_21 : decode cX7_readSemicolon 21 = .ok (.iconst 0, 1) := by decide +kernel
theorem dX7_readSemicolon_22 : decode cX7_readSemicolon 22 = .ok (.ireturn, 1) := by decide +kernel
theorem dX7_readSemicolon_23 : decode cX7_readSemicolon 23 = .ok (.aload_n 0, 1) := by decide +kernel
theorem dX7_readSemicolon_24 : decode cX7_readSemicolon 24 = .ok (.dup, 1) := by decide +kernel
theorem dX7_readSemicolon_25 : decode cX7_readSemicolon 25 = .ok (.getfield 19, 3) := by decide +kernel
theorem dX7_readSemicolon_28 : decode cX7_readSemicolon 28 = .ok (.iconst 1, 1) := by decide +kernel
theorem dX7_readSemicolon_29 : decode cX7_readSemicolon 29 = .ok (.iadd, 1) := by decide +kernel
theorem dX7_readSemicolon_30 : decode cX7_readSemicolon 30 = .ok (.putfield 19, 3) := by decide +kernel
theorem dX7_readSemicolon_33 : decode cX7_readSemicolon 33 = .ok (.iconst 1, 1) := by decide +kernel
theorem dX7_readSemicolon_34 : decode cX7_readSemicolon 34 = .ok (.ireturn, 1) := by decide +kernel
theorem dX7_endOfRun_0 : decode cX7_endOfRun 0 = .ok (.aload_n 0, 1) := by decide +kernel
theorem dX7_endOfRun_1 : decode cX7_endOfRun 1 = .ok (.getfield 19, 3) := by decide +kernel
theorem dX7_endOfRun_4 : decode cX7_endOfRun 4 = .ok (.istore_n 3, 1) := by decide +kernel
theorem dX7_endOfRun_5 : decode cX7_endOfRun 5 = .ok (.iload_n 3, 1) := by decide +kernel
theorem dX7_endOfRun_6 : decode cX7_endOfRun 6 = .ok (.aload_n 0, 1) := by decide +kernel
theorem dX7_endOfRun_7 : decode cX7_endOfRun 7 = .ok (.getfield 15, 3) := by decide +kernel
theorem dX7_endOfRun_10 : decode cX7_endOfRun 10 = .ok (.if_icmp .ge 29, 3) := by decide +kernel
theorem dX7_endOfRun_13 : decode cX7_endOfRun 13 = .ok (.aload_n 0, 1) := by decide +kernel
theorem dX7_endOfRun_14 : decode cX7_endOfRun 14 = .ok (.getfield 9, 3) := by decide +kernel
theorem dX7_endOfRun_17 : decode cX7_endOfRun 17 = .ok (.iload_n 3, 1) := by decide +kernel
theorem dX7_endOfRun_18 : decode cX7_endOfRun 18 = .ok (.iaload, 1) := by decide +kernel
theorem dX7_endOfRun_19 : decode cX7_endOfRun 19 = .ok (.iload_n 1, 1) := by decide +kernel
theorem dX7_endOfRun_20 : decode cX7_endOfRun 20 = .ok (.if_icmp .lt 19, 3) := by decide +kernel
theorem dX7_endOfRun_23 : decode cX7_endOfRun 23 = .ok (.aload_n 0, 1) := by decide +kernel
theorem dX7_endOfRun_24 : decode cX7_endOfRun 24 = .ok (.getfield 9, 3) := by decide +kernel
theorem dX7_endOfRun_27 : decode cX7_endOfRun 27 = .ok (.iload_n 3, 1) := by decide +kernel
theorem dX7_endOfRun_28 : decode cX7_endOfRun 28 = .ok (.iaload, 1) := by decide +kernel
theorem dX7_endOfRun_29 : decode cX7_endOfRun 29 = .ok (.iload_n 2, 1) := by decide +kernel
theorem dX7_endOfRun_30 : decode cX7_endOfRun 30 = .ok (.if_icmp .gt 9, 3) := by decide +kernel
theorem dX7_endOfRun_33 : decode cX7_endOfRun 33 = .ok (.iinc 3 1, 3) := by decide +kernel
theorem dX7_endOfRun_36 : decode cX7_endOfRun 36 = .ok (.goto (-31), 3) := by decide +kernel
theorem dX7_endOfRun_39 : decode cX7_endOfRun 39 = .ok (.iload_n 3, 1) := by decide +kernel
theorem dX7_endOfRun_40 : decode cX7_endOfRun 40 = .ok (.ireturn, 1) := by decide +kernel
theorem dX8_init_0 : decode cX8_init 0 = .ok (.aload_n 0, 1) := by decide +kernel
theorem dX8_init_1 : decode cX8_init 1 = .ok (.invokespecial 3, 3) := by decide +kernel
theorem dX8_init_4 : decode cX8_init 4 = .ok (.aload_n 0, 1) := by decide +kernel
theorem dX8_init_5 : decode cX8_init 5 = .ok (.new 9, 3) := by decide +kernel
theorem dX8_init_8 : decode cX8_init 8 = .ok (.dup, 1) := by decide +kernel
theorem dX8_init_9 : decode cX8_init 9 = .ok (.invokespecial 11, 3) := by decide +kernel
theorem dX8_init_12 : decode cX8_init 12 = .ok (.putfield 12, 3) := by decide +kernel
theorem dX8_init_15 : decode cX8_init 15 = .ok (.aload_n 0, 1) := by decide +kernel
theorem dX8_init_16 : decode cX8_init 16 = .ok (.bipush 10, 2) := by decide +kernel
theorem dX8_init_18 : decode cX8_init 18 = .ok (.newarray .int, 2) := by decide +kernel
theorem dX8_init_20 : decode cX8_init 20 = .ok (.putfield 18, 3) := by decide +kernel
theorem dX8_init_23 : decode cX8_init 23 = .ok (.return_, 1) := by decide +kernel
theorem dX8_isAsRead_0 : decode cX8_isAsRead 0 = .ok (.iconst 0, 1) := by decide +kernel
theorem dX8_isAsRead_1 : decode cX8_isAsRead 1 = .ok (.istore_n 3, 1) := by decide +kernel
theorem dX8_isAsRead_2 : decode cX8_isAsRead 2 = .ok (.iload_n 3, 1) := by decide +kernel
theorem dX8_isAsRead_3 : decode cX8_isAsRead 3 = .ok (.aload_n 1, 1) := by decide +kernel
theorem dX8_isAsRead_4 : decode cX8_isAsRead 4 = .ok (.getfield 22, 3) := by decide +kernel
theorem dX8_isAsRead_7 : decode cX8_isAsRead 7 = .ok (.if_icmp .ge 49, 3) := by decide +kernel
theorem dX8_isAsRead_10 : decode cX8_isAsRead 10 = .ok (.aload_n 0, 1) := by decide +kernel
theorem dX8_isAsRead_11 : decode cX8_isAsRead 11 = .ok (.getfield 12, 3) := by decide +kernel
theorem dX8_isAsRead_14 : decode cX8_isAsRead 14 = .ok (.aload_n 1, 1) := by decide +kernel
theorem dX8_isAsRead_15 : decode cX8_isAsRead 15 = .ok (.aload_n 1, 1) := by decide +kernel
theorem dX8_isAsRead_16 : decode cX8_isAsRead 16 = .ok (.getfield 28, 3) := by decide +kernel
theorem dX8_isAsRead_19 : decode cX8_isAsRead 19 = .ok (.iload_n 3, 1) := by decide +kernel
theorem dX8_isAsRead_20 : decode cX8_isAsRead 20 = .ok (.iaload, 1) := by decide +kernel
theorem dX8_isAsRead_21 : decode cX8_isAsRead 21 = .ok (.invokevirtual 31, 3) := by decide +kernel
theorem dX8_isAsRead_24 : decode cX8_isAsRead 24 = .ok (.aload_n 0, 1) := by decide +kernel
theorem dX8_isAsRead_25 : decode cX8_isAsRead 25 = .ok (.getfield 12, 3) := by decide +kernel
theorem dX8_isAsRead_28 : decode cX8_isAsRead 28 = .ok (.aload_n 1, 1) := by decide +kernel
theorem dX8_isAsRead_29 : decode cX8_isAsRead 29 = .ok (.iload_n 2, 1) := by decide +kernel
theorem dX8_isAsRead_30 : decode cX8_isAsRead 30 = .ok (.aload_n 1, 1) := by decide +kernel
theorem dX8_isAsRead_31 : decode cX8_isAsRead 31 = .ok (.getfield 35, 3) := by decide +kernel
theorem dX8_isAsRead_34 : decode cX8_isAsRead 34 = .ok (.iload_n 3, 1) := by decide +kernel
theorem dX8_isAsRead_35 : decode cX8_isAsRead 35 = .ok (.iaload, 1) := by decide +kernel
theorem dX8_isAsRead_36 : decode cX8_isAsRead 36 = .ok (.invokevirtual 38, 3) := by decide +kernel
theorem dX8_isAsRead_39 : decode cX8_isAsRead 39 = .ok (.aload_n 1, 1) := by decide +kernel
theorem dX8_isAsRead_40 : decode cX8_isAsRead 40 = .ok (.getfield 42, 3) := by decide +kernel
theorem dX8_isAsRead_43 : decode cX8_isAsRead 43 = .ok (.iload_n 3, 1) := by decide +kernel
theorem dX8_isAsRead_44 : decode cX8_isAsRead 44 = .ok (.iaload, 1) := by decide +kernel
theorem dX8_isAsRead_45 : decode cX8_isAsRead 45 = .ok (.if_icmp .eq 5, 3) := by decide +kernel
theorem dX8_isAsRead_48 : decode cX8_isAsRead 48 = .ok (.iconst 0, 1) := by decide +kernel
theorem dX8_isAsRead_49 : decode cX8_isAsRead 49 = .ok (.ireturn, 1) := by decide +kernel
theorem dX8_isAsRead_50 : decode cX8_isAsRead 50 = .ok (.iinc 3 1, 3) := by decide +kernel
theorem dX8_isAsRead_53 : decode cX8_isAsRead 53 = .ok (.goto (-51), 3) := by decide +kernel
theorem dX8_isAsRead_56 : decode cX8_isAsRead 56 = .ok (.iconst 1, 1) := by decide +kernel
theorem dX8_isAsRead_57 : decode cX8_isAsRead 57 = .ok (.ireturn, 1) := by decide +kernel
theorem dX8_fittingSets_0 : decode cX8_fittingSets 0 = .ok (.lconst 0, 1) := by decide +kernel
theorem dX8_fittingSets_1 : decode cX8_fittingSets 1 = .ok (.lstore_n 2, 1) := by decide +kernel
theorem dX8_fittingSets_2 : decode cX8_fittingSets 2 = .ok (.iconst 0, 1) := by decide +kernel
theorem dX8_fittingSets_3 : decode cX8_fittingSets 3 = .ok (.istore 4, 2) := by decide +kernel
theorem dX8_fittingSets_5 : decode cX8_fittingSets 5 = .ok (.iload 4, 2) := by decide +kernel
theorem dX8_fittingSets_7 : decode cX8_fittingSets 7 = .ok (.aload_n 1, 1) := by decide +kernel
theorem dX8_fittingSets_8 : decode cX8_fittingSets 8 = .ok (.invokevirtual 45, 3) := by decide +kernel
theorem dX8_fittingSets_11 : decode cX8_fittingSets 11 = .ok (.if_icmp .gt 26, 3) := by decide +kernel
theorem dX8_fittingSets_14 : decode cX8_fittingSets 14 = .ok (.aload_n 0, 1) := by decide +kernel
theorem dX8_fittingSets_15 : decode cX8_fittingSets 15 = .ok (.aload_n 1, 1) := by decide +kernel
theorem dX8_fittingSets_16 : decode cX8_fittingSets 16 = .ok (.iload 4, 2) := by decide +kernel
theorem dX8_fittingSets_18 : decode cX8_fittingSets 18 = .ok (.invokevirtual 49, 3) := by decide +kernel
theorem dX8_fittingSets_21 : decode cX8_fittingSets 21 = .ok (.ifCond .eq 10, 3) := by decide +kernel
theorem dX8_fittingSets_24 : decode cX8_fittingSets 24 = .ok (.lload_n 2, 1) := by decide +kernel
theorem dX8_fittingSets_25 : decode cX8_fittingSets 25 = .ok (.lconst 1, 1) := by decide +kernel
theorem dX8_fittingSets_26 : decode cX8_fittingSets 26 = .ok (.iload 4, 2) := by decide +kernel
theorem dX8_fittingSets_28 : decode cX8_fittingSets 28 = .ok (.lshl, 1) := by decide +kernel
theorem dX8_fittingSets_29 : decode cX8_fittingSets 29 = .ok (.lor, 1) := by decide +kernel
theorem dX8_fittingSets_30 : decode cX8_fittingSets 30 = .ok (.lstore_n 2, 1) := by decide +kernel
theorem dX8_fittingSets_31 : decode cX8_fittingSets 31 = .ok (.iinc 4 1, 3) := by decide +kernel
theorem dX8_fittingSets_34 : decode cX8_fittingSets 34 = .ok (.goto (-29), 3) := by decide +kernel
theorem dX8_fittingSets_37 : decode cX8_fittingSets 37 = .ok (.lload_n 2, 1) := by decide +kernel
theorem dX8_fittingSets_38 : decode cX8_fittingSets 38 = .ok (.lreturn, 1) := by decide +kernel
theorem dX8_inAllSets_0 : decode cX8_inAllSets 0 = .ok (.lload_n 2, 1) := by decide +kernel
theorem dX8_inAllSets_1 : decode cX8_inAllSets 1 = .ok (.lconst 0, 1) := by decide +kernel
theorem dX8_inAllSets_2 : decode cX8_inAllSets 2 = .ok (.lcmp, 1) := by decide +kernel
theorem dX8_inAllSets_3 : decode cX8_inAllSets 3 = .ok (.ifCond .ne 5, 3) := by decide +kernel
theorem dX8_inAllSets_6 : decode cX8_inAllSets 6 = .ok (.iconst (-1), 1) := by decide +kernel
theorem dX8_inAllSets_7 : decode cX8_inAllSets 7 = .ok (.ireturn, 1) := by decide +kernel
theorem dX8_inAllSets_8 : decode cX8_inAllSets 8 = .ok (.aload_n 1, 1) := by decide +kernel
theorem dX8_inAllSets_9 : decode cX8_inAllSets 9 = .ok (.invokevirtual 45, 3) := by decide +kernel
theorem dX8_inAllSets_12 : decode cX8_inAllSets 12 = .ok (.istore 4, 2) := by decide +kernel
theorem dX8_inAllSets_14 : decode cX8_inAllSets 14 = .ok (.iconst 0, 1) := by decide +kernel
theorem dX8_inAllSets_15 : decode cX8_inAllSets 15 = .ok (.istore 5, 2) := by decide +kernel
theorem dX8_inAllSets_17 : decode cX8_inAllSets 17 = .ok (.iload 5, 2) := by decide +kernel
theorem dX8_inAllSets_19 : decode cX8_inAllSets 19 = .ok (.aload_n 1, 1) := by decide +kernel
theorem dX8_inAllSets_20 : decode cX8_inAllSets 20 = .ok (.invokevirtual 45, 3) := by decide +kernel
theorem dX8_inAllSets_23 : decode cX8_inAllSets 23 = .ok (.if_icmp .gt 27, 3) := by decide +kernel
theorem dX8_inAllSets_26 : decode cX8_inAllSets 26 = .ok (.lload_n 2, 1) := by decide +kernel
theorem dX8_inAllSets_27 : decode cX8_inAllSets 27 = .ok (.iload 5, 2) := by decide +kernel
theorem dX8_inAllSets_29 : decode cX8_inAllSets 29 = .ok (.lshr, 1) := by decide +kernel
theorem dX8_inAllSets_30 : decode cX8_inAllSets 30 = .ok (.lconst 1, 1) := by decide +kernel
theorem dX8_inAllSets_31 : decode cX8_inAllSets 31 = .ok (.land, 1) := by decide +kernel
theorem dX8_inAllSets_32 : decode cX8_inAllSets 32 = .ok (.lconst 0, 1) := by decide +kernel
theorem dX8_inAllSets_33 : decode cX8_inAllSets 33 = .ok (.lcmp, 1) := by decide +kernel
theorem dX8_inAllSets_34 : decode cX8_inAllSets 34 = .ok (.ifCond .eq 10, 3) := by decide +kernel
theorem dX8_inAllSets_37 : decode cX8_inAllSets 37 = .ok (.iload 4, 2) := by decide +kernel
theorem dX8_inAllSets_39 : decode cX8_inAllSets 39 = .ok (.iload 5, 2) := by decide +kernel
theorem dX8_inAllSets_41 : decode cX8_inAllSets 41 = .ok (.iand, 1) := by decide +kernel
theorem dX8_inAllSets_42 : decode cX8_inAllSets 42 = .ok (.istore 4, 2) := by decide +kernel
theorem dX8_inAllSets_44 : decode cX8_inAllSets 44 = .ok (.iinc 5 1, 3) := by decide +kernel
theorem dX8_inAllSets_47 : decode cX8_inAllSets 47 = .ok (.goto (-30), 3) := by decide +kernel
theorem dX8_inAllSets_50 : decode cX8_inAllSets 50 = .ok (.iload 4, 2) := by decide +kernel
theorem dX8_inAllSets_52 : decode cX8_inAllSets 52 = .ok (.ireturn, 1) := by decide +kernel
theorem dX8_bestCell_0 : decode cX8_bestCell 0 = .ok (.lload_n 2, 1) := by decide +kernel
theorem dX8_bestCell_1 : decode cX8_bestCell 1 = .ok (.lconst 0, 1) := by decide +kernel
theorem dX8_bestCell_2 : decode cX8_bestCell 2 = .ok (.lcmp, 1) := by decide +kernel
theorem dX8_bestCell_3 : decode cX8_bestCell 3 = .ok (.ifCond .ne 5, 3) := by decide +kernel
theorem dX8_bestCell_6 : decode cX8_bestCell 6 = .ok (.iconst (-1), 1) := by decide +kernel
theorem dX8_bestCell_7 : decode cX8_bestCell 7 = .ok (.ireturn, 1) := by decide +kernel
theorem dX8_bestCell_8 : decode cX8_bestCell 8 = .ok (.aload_n 0, 1) := by decide +kernel
theorem dX8_bestCell_9 : decode cX8_bestCell 9 = .ok (.getfield 12, 3) := by decide +kernel
theorem dX8_bestCell_12 : decode cX8_bestCell 12 = .ok (.aload_n 1, 1) := by decide +kernel
theorem dX8_bestCell_13 : decode cX8_bestCell 13 = .ok (.iload 4, 2) := by decide +kernel
theorem dX8_bestCell_15 : decode cX8_bestCell 15 = .ok (.invokevirtual 31, 3) := by decide +kernel
theorem dX8_bestCell_18 : decode cX8_bestCell 18 = .ok (.iconst (-1), 1) := by decide +kernel
theorem dX8_bestCell_19 : decode cX8_bestCell 19 = .ok (.istore 5, 2) := by decide +kernel
theorem dX8_bestCell_21 : decode cX8_bestCell 21 = .ok (.lload_n 2, 1) := by decide +kernel
theorem dX8_bestCell_22 : decode cX8_bestCell 22 = .ok (.invokestatic 53, 3) := by decide +kernel
theorem dX8_bestCell_25 : decode cX8_bestCell 25 = .ok (.iconst 1, 1) := by decide +kernel
theorem dX8_bestCell_26 : decode cX8_bestCell 26 = .ok (.iadd, 1) := by decide +kernel
theorem dX8_bestCell_27 : decode cX8_bestCell 27 = .ok (.istore 6, 2) := by decide +kernel
theorem dX8_bestCell_29 : decode cX8_bestCell 29 = .ok (.iconst 0, 1) := by decide +kernel
theorem dX8_bestCell_30 : decode cX8_bestCell 30 = .ok (.istore 7, 2) := by decide +kernel
theorem dX8_bestCell_32 : decode cX8_bestCell 32 = .ok (.iload 7, 2) := by decide +kernel
theorem dX8_bestCell_34 : decode cX8_bestCell 34 = .ok (.bipush 48, 2) := by decide +kernel
theorem dX8_bestCell_36 : decode cX8_bestCell 36 = .ok (.if_icmp .ge 34, 3) := by decide +kernel
theorem dX8_bestCell_39 : decode cX8_bestCell 39 = .ok (.aload_n 0, 1) := by decide +kernel
theorem dX8_bestCell_40 : decode cX8_bestCell 40 = .ok (.aload_n 1, 1) := by decide +kernel
theorem dX8_bestCell_41 : decode cX8_bestCell 41 = .ok (.lload_n 2, 1) := by decide +kernel
theorem dX8_bestCell_42 : decode cX8_bestCell 42 = .ok (.iload 7, 2) := by decide +kernel
theorem dX8_bestCell_44 : decode cX8_bestCell 44 = .ok (.invokevirtual 59, 3) := by decide +kernel
theorem dX8_bestCell_47 : decode cX8_bestCell 47 = .ok (.istore 8, 2) := by decide +kernel
theorem dX8_bestCell_49 : decode cX8_bestCell 49 = .ok (.iload 8, 2) := by decide +kernel
theorem dX8_bestCell_51 : decode cX8_bestCell 51 = .ok (.iload 6, 2) := by decide +kernel
theorem dX8_bestCell_53 : decode cX8_bestCell 53 = .ok (.if_icmp .ge 11, 3) := by decide +kernel
theorem dX8_bestCell_56 : decode cX8_bestCell 56 = .ok (.iload 7, 2) := by decide +kernel
theorem dX8_bestCell_58 : decode cX8_bestCell 58 = .ok (.istore 5, 2) := by decide +kernel
theorem dX8_bestCell_60 : decode cX8_bestCell 60 = .ok (.iload 8, 2) := by decide +kernel
theorem dX8_bestCell_62 : decode cX8_bestCell 62 = .ok (.istore 6, 2) := by decide +kernel
theorem dX8_bestCell_64 : decode cX8_bestCell 64 = .ok (.iinc 7 1, 3) := by decide +kernel
theorem dX8_bestCell_67 : decode cX8_bestCell 67 = .ok (.goto (-35), 3) := by decide +kernel
theorem dX8_bestCell_70 : decode cX8_bestCell 70 = .ok (.iload 5, 2) := by decide +kernel
theorem dX8_bestCell_72 : decode cX8_bestCell 72 = .ok (.ireturn, 1) := by decide +kernel
theorem dX8_mostAlike_0 : decode cX8_mostAlike 0 = .ok (.iconst 0, 1) := by decide +kernel
theorem dX8_mostAlike_1 : decode cX8_mostAlike 1 = .ok (.istore 5, 2) := by decide +kernel
theorem dX8_mostAlike_3 : decode cX8_mostAlike 3 = .ok (.iload 5, 2) := by decide +kernel
theorem dX8_mostAlike_5 : decode cX8_mostAlike 5 = .ok (.bipush 9, 2) := by decide +kernel
theorem dX8_mostAlike_7 : decode cX8_mostAlike 7 = .ok (.if_icmp .gt 17, 3) := by decide +kernel
theorem dX8_mostAlike_10 : decode cX8_mostAlike 10 = .ok (.aload_n 0, 1) := by decide +kernel
theorem dX8_mostAlike_11 : decode cX8_mostAlike 11 = .ok (.getfield 18, 3) := by decide +kernel
theorem dX8_mostAlike_14 : decode cX8_mostAlike 14 = .ok (.iload 5, 2) := by decide +kernel
theorem dX8_mostAlike_16 : decode cX8_mostAlike 16 = .ok (.iconst 0, 1) := by decide +kernel
theorem dX8_mostAlike_17 : decode cX8_mostAlike 17 = .ok (.iastore, 1) := by decide +kernel
theorem dX8_mostAlike_18 : decode cX8_mostAlike 18 = .ok (.iinc 5 1, 3) := by decide +kernel
theorem dX8_mostAlike_21 : decode cX8_mostAlike 21 = .ok (.goto (-18), 3) := by decide +kernel
theorem dX8_mostAlike_24 : decode cX8_mostAlike 24 = .ok (.iconst 0, 1) := by decide +kernel
theorem dX8_mostAlike_25 : decode cX8_mostAlike 25 = .ok (.istore 5, 2) := by decide +kernel
theorem dX8_mostAlike_27 : decode cX8_mostAlike 27 = .ok (.iconst 0, 1) := by decide +kernel
theorem dX8_mostAlike_28 : decode cX8_mostAlike 28 = .ok (.istore 6, 2) := by decide +kernel
theorem dX8_mostAlike_30 : decode cX8_mostAlike 30 = .ok (.iload 6, 2) := by decide +kernel
theorem dX8_mostAlike_32 : decode cX8_mostAlike 32 = .ok (.aload_n 1, 1) := by decide +kernel
theorem dX8_mostAlike_33 : decode cX8_mostAlike 33 = .ok (.invokevirtual 45, 3) := by decide +kernel
theorem dX8_mostAlike_36 : decode cX8_mostAlike 36 = .ok (.if_icmp .gt 59, 3) := by decide +kernel
theorem dX8_mostAlike_39 : decode cX8_mostAlike 39 = .ok (.lload_n 2, 1) := by decide +kernel
theorem dX8_mostAlike_40 : decode cX8_mostAlike 40 = .ok (.iload 6, 2) := by decide +kernel
theorem dX8_mostAlike_42 : decode cX8_mostAlike 42 = .ok (.lshr, 1) := by decide +kernel
theorem dX8_mostAlike_43 : decode cX8_mostAlike 43 = .ok (.lconst 1, 1) := by decide +kernel
theorem dX8_mostAlike_44 : decode cX8_mostAlike 44 = .ok (.land, 1) := by decide +kernel
theorem dX8_mostAlike_45 : decode cX8_mostAlike 45 = .ok (.lconst 0, 1) := by decide +kernel
theorem dX8_mostAlike_46 : decode cX8_mostAlike 46 = .ok (.lcmp, 1) := by decide +kernel
theorem dX8_mostAlike_47 : decode cX8_mostAlike 47 = .ok (.ifCond .eq 42, 3) := by decide +kernel
theorem dX8_mostAlike_50 : decode cX8_mostAlike 50 = .ok (.aload_n 0, 1) := by decide +kernel
theorem dX8_mostAlike_51 : decode cX8_mostAlike 51 = .ok (.getfield 12, 3) := by decide +kernel
theorem dX8_mostAlike_54 : decode cX8_mostAlike 54 = .ok (.aload_n 1, 1) := by decide +kernel
theorem dX8_mostAlike_55 : decode cX8_mostAlike 55 = .ok (.iload 6, 2) := by decide +kernel
theorem dX8_mostAlike_57 : decode cX8_mostAlike 57 = .ok (.iload 4, 2) := by decide +kernel
theorem dX8_mostAlike_59 : decode cX8_mostAlike 59 = .ok (.invokevirtual 38, 3) := by decide +kernel
theorem dX8_mostAlike_62 : decode cX8_mostAlike 62 = .ok (.istore 7, 2) := by decide +kernel
theorem dX8_mostAlike_64 : decode cX8_mostAlike 64 = .ok (.aload_n 0, 1) := by decide +kernel
theorem dX8_mostAlike_65 : decode cX8_mostAlike 65 = .ok (.getfield 18, 3) := by decide +kernel
theorem dX8_mostAlike_68 : decode cX8_mostAlike 68 = .ok (.iload 7, 2) := by decide +kernel
theorem dX8_mostAlike_70 : decode cX8_mostAlike 70 = .ok (.dup2, 1) := by decide +kernel
theorem dX8_mostAlike_71 : decode cX8_mostAlike 71 = .ok (.iaload, 1) := by decide +kernel
theorem dX8_mostAlike_72 : decode cX8_mostAlike 72 = .ok (.iconst 1, 1) := by decide +kernel
theorem dX8_mostAlike_73 : decode cX8_mostAlike 73 = .ok (.iadd, 1) := by decide +kernel
theorem dX8_mostAlike_74 : decode cX8_mostAlike 74 = .ok (.iastore, 1) := by decide +kernel
theorem dX8_mostAlike_75 : decode cX8_mostAlike 75 = .ok (.iload 5, 2) := by decide +kernel
theorem dX8_mostAlike_77 : decode cX8_mostAlike 77 = .ok (.aload_n 0, 1) := by decide +kernel
theorem dX8_mostAlike_78 : decode cX8_mostAlike 78 = .ok (.getfield 18, 3) := by decide +kernel
theorem dX8_mostAlike_81 : decode cX8_mostAlike 81 = .ok (.iload 7, 2) := by decide +kernel
theorem dX8_mostAlike_83 : decode cX8_mostAlike 83 = .ok (.iaload, 1) := by decide +kernel
theorem dX8_mostAlike_84 : decode cX8_mostAlike 84 = .ok (.invokestatic 63, 3) := by decide +kernel
theorem dX8_mostAlike_87 : decode cX8_mostAlike 87 = .ok (.istore 5, 2) := by decide +kernel
theorem dX8_mostAlike_89 : decode cX8_mostAlike 89 = .ok (.iinc 6 1, 3) := by decide +kernel
theorem dX8_mostAlike_92 : decode cX8_mostAlike 92 = .ok (.goto (-62), 3) := by decide +kernel
theorem dX8_mostAlike_95 : decode cX8_mostAlike 95 = .ok (.iload 5, 2) := by decide +kernel
theorem dX8_mostAlike_97 : decode cX8_mostAlike 97 = .ok (.ireturn, 1) := by decide +kernel
theorem dX8_possibleDolls_0 : decode cX8_possibleDolls 0 = .ok (.iconst 0, 1) := by decide +kernel
theorem dX8_possibleDolls_1 : decode cX8_possibleDolls 1 = .ok (.istore_n 2, 1) := by decide +kernel
theorem dX8_possibleDolls_2 : decode cX8_possibleDolls 2 = .ok (.iconst 0, 1) := by decide +kernel
theorem dX8_possibleDolls_3 : decode cX8_possibleDolls 3 = .ok (.istore_n 3, 1) := by decide +kernel
theorem dX8_possibleDolls_4 : decode cX8_possibleDolls 4 = .ok (.iload_n 3, 1) := by decide +kernel
theorem dX8_possibleDolls_5 : decode cX8_possibleDolls 5 = .ok (.aload_n 1, 1) := by decide +kernel
theorem dX8_possibleDolls_6 : decode cX8_possibleDolls 6 = .ok (.getfield 69, 3) := by decide +kernel
theorem dX8_possibleDolls_9 : decode cX8_possibleDolls 9 = .ok (.if_icmp .ge 50, 3) := by decide +kernel
theorem dX8_possibleDolls_12 : decode cX8_possibleDolls 12 = .ok (.aload_n 1, 1) := by decide +kernel
theorem dX8_possibleDolls_13 : decode cX8_possibleDolls 13 = .ok (.getfield 72, 3) := by decide +kernel
theorem dX8_possibleDolls_16 : decode cX8_possibleDolls 16 = .ok (.iload_n 3, 1) := by decide +kernel
theorem dX8_possibleDolls_17 : decode cX8_possibleDolls 17 = .ok (.iaload, 1) := by decide +kernel
theorem dX8_possibleDolls_18 : decode cX8_possibleDolls 18 = .ok (.istore 4, 2) := by decide +kernel
theorem dX8_possibleDolls_20 : decode cX8_possibleDolls 20 = .ok (.aload_n 1, 1) := by decide +kernel
theorem dX8_possibleDolls_21 : decode cX8_possibleDolls 21 = .ok (.getfield 72, 3) := by decide +kernel
theorem dX8_possibleDolls_24 : decode cX8_possibleDolls 24 = .ok (.iload_n 3, 1) := by decide +kernel
theorem dX8_possibleDolls_25 : decode cX8_possibleDolls 25 = .ok (.iconst 5, 1) := by decide +kernel
theorem dX8_possibleDolls_26 : decode cX8_possibleDolls 26 = .ok (.iastore, 1) := by decide +kernel
theorem dX8_possibleDolls_27 : decode cX8_possibleDolls 27 = .ok (.aload_n 0, 1) := by decide +kernel
theorem dX8_possibleDolls_28 : decode cX8_possibleDolls 28 = .ok (.aload_n 1, 1) := by decide +kernel
theorem dX8_possibleDolls_29 : decode cX8_possibleDolls 29 = .ok (.aload_n 1, 1) := by decide +kernel
theorem dX8_possibleDolls_30 : decode cX8_possibleDolls 30 = .ok (.invokevirtual 45, 3) := by decide +kernel
theorem dX8_possibleDolls_33 : decode cX8_possibleDolls 33 = .ok (.invokevirtual 49, 3) := by decide +kernel
theorem dX8_possibleDolls_36 : decode cX8_possibleDolls 36 = .ok (.ifCond .eq 9, 3) := by decide +kernel
theorem dX8_possibleDolls_39 : decode cX8_possibleDolls 39 = .ok (.iload_n 2, 1) := by decide +kernel
theorem dX8_possibleDolls_40 : decode cX8_possibleDolls 40 = .ok (.iconst 1, 1) := by decide +kernel
theorem dX8_possibleDolls_41 : decode cX8_possibleDolls 41 = .ok (.iload_n 3, 1) := by decide +kernel
theorem dX8_possibleDolls_42 : decode cX8_possibleDolls 42 = .ok (.ishl, 1) := by decide +kernel
theorem dX8_possibleDolls_43 : decode cX8_possibleDolls 43 = .ok (.ior, 1) := by decide +kernel
theorem dX8_possibleDolls_44 : decode cX8_possibleDolls 44 = .ok (.istore_n 2, 1) := by decide +kernel
theorem dX8_possibleDolls_45 : decode cX8_possibleDolls 45 = .ok (.aload_n 1, 1) := by decide +kernel
theorem dX8_possibleDolls_46 : decode cX8_possibleDolls 46 = .ok (.getfield 72, 3) := by decide +kernel
theorem dX8_possibleDolls_49 : decode cX8_possibleDolls 49 = .ok (.iload_n 3, 1) := by decide +kernel
theorem dX8_possibleDolls_50 : decode cX8_possibleDolls 50 = .ok (.iload 4, 2) := by decide +kernel
theorem dX8_possibleDolls_52 : decode cX8_possibleDolls 52 = .ok (.iastore, 1) := by decide +kernel
theorem dX8_possibleDolls_53 : decode cX8_possibleDolls 53 = .ok (.iinc 3 1, 3) := by decide +kernel
theorem dX8_possibleDolls_56 : decode cX8_possibleDolls 56 = .ok (.goto (-52), 3) := by decide +kernel
theorem dX8_possibleDolls_59 : decode cX8_possibleDolls 59 = .ok (.iload_n 2, 1) := by decide +kernel
theorem dX8_possibleDolls_60 : decode cX8_possibleDolls 60 = .ok (.ireturn, 1) := by decide +kernel
theorem dX9_init_0 : decode cX9_init 0 = .ok (.aload_n 0, 1) := by decide +kernel
theorem dX9_init_1 : decode cX9_init 1 = .ok (.invokespecial 1, 3) := by decide +kernel
theorem dX9_init_4 : decode cX9_init 4 = .ok (.return_, 1) := by decide +kernel
theorem dX9_highIn_0 : decode cX9_highIn 0 = .ok (.iconst 1, 1) := by decide +kernel
theorem dX9_highIn_1 : decode cX9_highIn 1 = .ok (.aload_n 0, 1) := by decide +kernel
theorem dX9_highIn_2 : decode cX9_highIn 2 = .ok (.iload_n 1, 1) := by decide +kernel
theorem dX9_highIn_3 : decode cX9_highIn 3 = .ok (.iload_n 2, 1) := by decide +kernel
theorem dX9_highIn_4 : decode cX9_highIn 4 = .ok (.invokespecial 7, 3) := by decide +kernel
theorem dX9_highIn_7 : decode cX9_highIn 7 = .ok (.iconst 2, 1) := by decide +kernel
theorem dX9_highIn_8 : decode cX9_highIn 8 = .ok (.idiv, 1) := by decide +kernel
theorem dX9_highIn_9 : decode cX9_highIn 9 = .ok (.invokestatic 11, 3) := by decide +kernel
theorem dX9_highIn_12 : decode cX9_highIn 12 = .ok (.ireturn, 1) := by decide +kernel
theorem dX10_init_0 : decode cX10_init 0 = .ok (.aload_n 0, 1) := by decide +kernel
theorem dX10_init_1 : decode cX10_init 1 = .ok (.invokespecial 3, 3) := by decide +kernel
theorem dX10_init_4 : decode cX10_init 4 = .ok (.return_, 1) := by decide +kernel
theorem dX10_cellIn_0 : decode cX10_cellIn 0 = .ok (.bipush 47, 2) := by decide +kernel
theorem dX10_cellIn_2 : decode cX10_cellIn 2 = .ok (.iload_n 1, 1) := by decide +kernel
theorem dX10_cellIn_3 : decode cX10_cellIn 3 = .ok (.iload_n 2, 1) := by decide +kernel
theorem dX10_cellIn_4 : decode cX10_cellIn 4 = .ok (.iload_n 3, 1) := by decide +kernel
theorem dX10_cellIn_5 : decode cX10_cellIn 5 = .ok (.imul, 1) := by decide +kernel
theorem dX10_cellIn_6 : decode cX10_cellIn 6 = .ok (.iadd, 1) := by decide +kernel
theorem dX10_cellIn_7 : decode cX10_cellIn 7 = .ok (.invokestatic 9, 3) := by decide +kernel
theorem dX10_cellIn_10 : decode cX10_cellIn 10 = .ok (.ireturn, 1) := by decide +kernel
theorem dX10_highIn_0 : decode cX10_highIn 0 = .ok (.iload_n 1, 1) := by decide +kernel
theorem dX10_highIn_1 : decode cX10_highIn 1 = .ok (.ireturn, 1) := by decide +kernel
theorem dX11_init_0 : decode cX11_init 0 = .ok (.aload_n 0, 1) := by decide +kernel
theorem dX11_init_1 : decode cX11_init 1 = .ok (.invokespecial 1, 3) := by decide +kernel
theorem dX11_init_4 : decode cX11_init 4 = .ok (.aload_n 0, 1) := by decide +kernel
theorem dX11_init_5 : decode cX11_init 5 = .ok (.new 7, 3) := by decide +kernel
theorem dX11_init_8 : decode cX11_init 8 = .ok (.dup, 1) := by decide +kernel
theorem dX11_init_9 : decode cX11_init 9 = .ok (.invokespecial 9, 3) := by decide +kernel
theorem dX11_init_12 : decode cX11_init 12 = .ok (.putfield 10, 3) := by decide +kernel
theorem dX11_init_15 : decode cX11_init 15 = .ok (.aload_n 0, 1) := by decide +kernel
theorem dX11_init_16 : decode cX11_init 16 = .ok (.new 7, 3) := by decide +kernel
theorem dX11_init_19 : decode cX11_init 19 = .ok (.dup, 1) := by decide +kernel
theorem dX11_init_20 : decode cX11_init 20 = .ok (.invokespecial 9, 3) := by decide +kernel
theorem dX11_init_23 : decode cX11_init 23 = .ok (.putfield 16, 3) := by decide +kernel
theorem dX11_init_26 : decode cX11_init 26 = .ok (.aload_n 0, 1) := by decide +kernel
theorem dX11_init_27 : decode cX11_init 27 = .ok (.new 7, 3) := by decide +kernel
theorem dX11_init_30 : decode cX11_init 30 = .ok (.dup, 1) := by decide +kernel
theorem dX11_init_31 : decode cX11_init 31 = .ok (.invokespecial 9, 3) := by decide +kernel
theorem dX11_init_34 : decode cX11_init 34 = .ok (.putfield 19, 3) := by decide +kernel
theorem dX11_init_37 : decode cX11_init 37 = .ok (.aload_n 0, 1) := by decide +kernel
theorem dX11_init_38 : decode cX11_init 38 = .ok (.new 7, 3) := by decide +kernel
theorem dX11_init_41 : decode cX11_init 41 = .ok (.dup, 1) := by decide +kernel
theorem dX11_init_42 : decode cX11_init 42 = .ok (.invokespecial 9, 3) := by decide +kernel
theorem dX11_init_45 : decode cX11_init 45 = .ok (.putfield 22, 3) := by decide +kernel
theorem dX11_init_48 : decode cX11_init 48 = .ok (.aload_n 0, 1) := by decide +kernel
theorem dX11_init_49 : decode cX11_init 49 = .ok (.new 25, 3) := by decide +kernel
theorem dX11_init_52 : decode cX11_init 52 = .ok (.dup, 1) := by decide +kernel
theorem dX11_init_53 : decode cX11_init 53 = .ok (.invokespecial 27, 3) := by decide +kernel
theorem dX11_init_56 : decode cX11_init 56 = .ok (.putfield 28, 3) := by decide +kernel
theorem dX11_init_59 : decode cX11_init 59 = .ok (.aload_n 0, 1) := by decide +kernel
theorem dX11_init_60 : decode cX11_init 60 = .ok (.new 32, 3) := by decide +kernel
theorem dX11_init_63 : decode cX11_init 63 = .ok (.dup, 1) := by decide +kernel
theorem dX11_init_64 : decode cX11_init 64 = .ok (.invokespecial 34, 3) := by decide +kernel
theorem dX11_init_67 : decode cX11_init 67 = .ok (.putfield 35, 3) := by decide +kernel
theorem dX11_init_70 : decode cX11_init 70 = .ok (.aload_n 0, 1) := by decide +kernel
theorem dX11_init_71 : decode cX11_init 71 = .ok (.new 39, 3) := by decide +kernel
theorem dX11_init_74 : decode cX11_init 74 = .ok (.dup, 1) := by decide +kernel
theorem dX11_init_75 : decode cX11_init 75 = .ok (.invokespecial 41, 3) := by decide +kernel
theorem dX11_init_78 : decode cX11_init 78 = .ok (.putfield 42, 3) := by decide +kernel
theorem dX11_init_81 : decode cX11_init 81 = .ok (.aload_n 0, 1) := by decide +kernel
theorem dX11_init_82 : decode cX11_init 82 = .ok (.new 46, 3) := by decide +kernel
theorem dX11_init_85 : decode cX11_init 85 = .ok (.dup, 1) := by decide +kernel
theorem dX11_init_86 : decode cX11_init 86 = .ok (.invokespecial 48, 3) := by decide +kernel
theorem dX11_init_89 : decode cX11_init 89 = .ok (.putfield 49, 3) := by decide +kernel
theorem dX11_init_92 : decode cX11_init 92 = .ok (.aload_n 0, 1) := by decide +kernel
theorem dX11_init_93 : decode cX11_init 93 = .ok (.iconst 1, 1) := by decide +kernel
theorem dX11_init_94 : decode cX11_init 94 = .ok (.putfield 53, 3) := by decide +kernel
theorem dX11_init_97 : decode cX11_init 97 = .ok (.return_, 1) := by decide +kernel
theorem dX11_road_0 : decode cX11_road 0 = .ok (.iload_n 1, 1) := by decide +kernel
theorem dX11_road_1 : decode cX11_road 1 = .ok (.iconst 0, 1) := by decide +kernel
theorem dX11_road_2 : decode cX11_road 2 = .ok (.bipush 47, 2) := by decide +kernel
theorem dX11_road_4 : decode cX11_road 4 = .ok (.invokestatic 57, 3) := by decide +kernel
theorem dX11_road_7 : decode cX11_road 7 = .ok (.ifCond .eq 12, 3) := by decide +kernel
theorem dX11_road_10 : decode cX11_road 10 = .ok (.iload_n 2, 1) := by decide +kernel
theorem dX11_road_11 : decode cX11_road 11 = .ok (.iconst 0, 1) := by decide +kernel
theorem dX11_road_12 : decode cX11_road 12 = .ok (.iconst 2, 1) := by decide +kernel
theorem dX11_road_13 : decode cX11_road 13 = .ok (.invokestatic 57, 3) := by decide +kernel
theorem dX11_road_16 : decode cX11_road 16 = .ok (.ifCond .ne 10, 3) := by decide +kernel
theorem dX11_road_19 : decode cX11_road 19 = .ok (.aload_n 0, 1) := by decide +kernel
theorem dX11_road_20 : decode cX11_road 20 = .ok (.bipush (-2), 2) := by decide +kernel
theorem dX11_road_22 : decode cX11_road 22 = .ok (.invokevirtual 61, 3) := by decide +kernel
theorem dX11_road_25 : decode cX11_road 25 = .ok (.ireturn, 1) := by decide +kernel
theorem dX11_road_26 : decode cX11_road 26 = .ok (.aload_n 0, 1) := by decide +kernel
theorem dX11_road_27 : decode cX11_road 27 = .ok (.getfield 10, 3) := by decide +kernel
theorem dX11_road_30 : decode cX11_road 30 = .ok (.getfield 65, 3) := by decide +kernel
theorem dX11_road_33 : decode cX11_road 33 = .ok (.istore_n 3, 1) := by decide +kernel
theorem dX11_road_34 : decode cX11_road 34 = .ok (.aload_n 0, 1) := by decide +kernel
theorem dX11_road_35 : decode cX11_road 35 = .ok (.getfield 10, 3) := by decide +kernel
theorem dX11_road_38 : decode cX11_road 38 = .ok (.iload_n 1, 1) := by decide +kernel
theorem dX11_road_39 : decode cX11_road 39 = .ok (.iload_n 2, 1) := by decide +kernel
theorem dX11_road_40 : decode cX11_road 40 = .ok (.invokevirtual 68, 3) := by decide +kernel
theorem dX11_road_43 : decode cX11_road 43 = .ok (.iload_n 3, 1) := by decide +kernel
theorem dX11_road_44 : decode cX11_road 44 = .ok (.ireturn, 1) := by decide +kernel
theorem dX11_rule_0 : decode cX11_rule 0 = .ok (.iload_n 1, 1) := by decide +kernel
theorem dX11_rule_1 : decode cX11_rule 1 = .ok (.iconst 0, 1) := by decide +kernel
theorem dX11_rule_2 : decode cX11_rule 2 = .ok (.iconst 2, 1) := by decide +kernel
theorem dX11_rule_3 : decode cX11_rule 3 = .ok (.invokestatic 57, 3) := by decide +kernel
theorem dX11_rule_6 : decode cX11_rule 6 = .ok (.ifCond .ne 10, 3) := by decide +kernel
theorem dX11_rule_9 : decode cX11_rule 9 = .ok (.aload_n 0, 1) := by decide +kernel
theorem dX11_rule_10 : decode cX11_rule 10 = .ok (.bipush (-2), 2) := by decide +kernel
theorem dX11_rule_12 : decode cX11_rule 12 = .ok (.invokevirtual 61, 3) := by decide +kernel
theorem dX11_rule_15 : decode cX11_rule 15 = .ok (.ireturn, 1) := by decide +kernel
theorem dX11_rule_16 : decode cX11_rule 16 = .ok (.aload_n 0, 1) := by decide +kernel
theorem dX11_rule_17 : decode cX11_rule 17 = .ok (.getfield 10, 3) := by decide +kernel
theorem dX11_rule_20 : decode cX11_rule 20 = .ok (.getfield 72, 3) := by decide +kernel
theorem dX11_rule_23 : decode cX11_rule 23 = .ok (.istore_n 2, 1) := by decide +kernel
theorem dX11_rule_24 : decode cX11_rule 24 = .ok (.aload_n 0, 1) := by decide +kernel
theorem dX11_rule_25 : decode cX11_rule 25 = .ok (.getfield 10, 3) := by decide +kernel
theorem dX11_rule_28 : decode cX11_rule 28 = .ok (.iload_n 1, 1) := by decide +kernel
theorem dX11_rule_29 : decode cX11_rule 29 = .ok (.putfield 72, 3) := by decide +kernel
theorem dX11_rule_32 : decode cX11_rule 32 = .ok (.iload_n 2, 1) := by decide +kernel
theorem dX11_rule_33 : decode cX11_rule 33 = .ok (.ireturn, 1) := by decide +kernel
theorem dX11_sight_0 : decode cX11_sight 0 = .ok (.iload_n 1, 1) := by decide +kernel
theorem dX11_sight_1 : decode cX11_sight 1 = .ok (.iconst 0, 1) := by decide +kernel
theorem dX11_sight_2 : decode cX11_sight 2 = .ok (.bipush 47, 2) := by decide +kernel
theorem dX11_sight_4 : decode cX11_sight 4 = .ok (.invokestatic 57, 3) := by decide +kernel
theorem dX11_sight_7 : decode cX11_sight 7 = .ok (.ifCond .ne 10, 3) := by decide +kernel
theorem dX11_sight_10 : decode cX11_sight 10 = .ok (.aload_n 0, 1) := by decide +kernel
theorem dX11_sight_11 : decode cX11_sight 11 = .ok (.bipush (-2), 2) := by decide +kernel
theorem dX11_sight_13 : decode cX11_sight 13 = .ok (.invokevirtual 61, 3) := by decide +kernel
theorem dX11_sight_16 : decode cX11_sight 16 = .ok (.ireturn, 1) := by decide +kernel
theorem dX11_sight_17 : decode cX11_sight 17 = .ok (.aload_n 0, 1) := by decide +kernel
theorem dX11_sight_18 : decode cX11_sight 18 = .ok (.getfield 10, 3) := by decide +kernel
theorem dX11_sight_21 : decode cX11_sight 21 = .ok (.getfield 75, 3) := by decide +kernel
theorem dX11_sight_24 : decode cX11_sight 24 = .ok (.istore_n 2, 1) := by decide +kernel
theorem dX11_sight_25 : decode cX11_sight 25 = .ok (.aload_n 0, 1) := by decide +kernel
theorem dX11_sight_26 : decode cX11_sight 26 = .ok (.getfield 10, 3) := by decide +kernel
theorem dX11_sight_29 : decode cX11_sight 29 = .ok (.iload_n 1, 1) := by decide +kernel
theorem dX11_sight_30 : decode cX11_sight 30 = .ok (.putfield 75, 3) := by decide +kernel
theorem dX11_sight_33 : decode cX11_sight 33 = .ok (.iload_n 2, 1) := by decide +kernel
theorem dX11_sight_34 : decode cX11_sight 34 = .ok (.ireturn, 1) := by decide +kernel
theorem dX11_child_0 : decode cX11_child 0 = .ok (.iload_n 1, 1) := by decide +kernel
theorem dX11_child_1 : decode cX11_child 1 = .ok (.iconst 0, 1) := by decide +kernel
theorem dX11_child_2 : decode cX11_child 2 = .ok (.iconst 5, 1) := by decide +kernel
theorem dX11_child_3 : decode cX11_child 3 = .ok (.invokestatic 57, 3) := by decide +kernel
theorem dX11_child_6 : decode cX11_child 6 = .ok (.ifCond .eq 45, 3) := by decide +kernel
theorem dX11_child_9 : decode cX11_child 9 = .ok (.iload_n 2, 1) := by decide +kernel
theorem dX11_child_10 : decode cX11_child 10 = .ok (.iconst 1, 1) := by decide +kernel
theorem dX11_child_11 : decode cX11_child 11 = .ok (.bipush 9, 2) := by decide +kernel
theorem dX11_child_13 : decode cX11_child 13 = .ok (.invokestatic 57, 3) := by decide +kernel
theorem dX11_child_16 : decode cX11_child 16 = .ok (.ifCond .eq 35, 3) := by decide +kernel
theorem dX11_child_19 : decode cX11_child 19 = .ok (.iload_n 3, 1) := by decide +kernel
theorem dX11_child_20 : decode cX11_child 20 = .ok (.invokestatic 78, 3) := by decide +kernel
theorem dX11_child_23 : decode cX11_child 23 = .ok (.ifCond .eq 28, 3) := by decide +kernel
theorem dX11_child_26 : decode cX11_child 26 = .ok (.iload 4, 2) := by decide +kernel
theorem dX11_child_28 : decode cX11_child 28 = .ok (.iconst 0, 1) := by decide +kernel
theorem dX11_child_29 : decode cX11_child 29 = .ok (.iconst 3, 1) := by decide +kernel
theorem dX11_child_30 : decode cX11_child 30 = .ok (.invokestatic 57, 3) := by decide +kernel
theorem dX11_child_33 : decode cX11_child 33 = .ok (.ifCond .eq 18, 3) := by decide +kernel
theorem dX11_child_36 : decode cX11_child 36 = .ok (.iload 5, 2) := by decide +kernel
theorem dX11_child_38 : decode cX11_child 38 = .ok (.iconst 0, 1) := by decide +kernel
theorem dX11_child_39 : decode cX11_child 39 = .ok (.bipush 60, 2) := by decide +kernel
theorem dX11_child_41 : decode cX11_child 41 = .ok (.invokestatic 57, 3) := by decide +kernel
theorem dX11_child_44 : decode cX11_child 44 = .ok (.ifCond .eq 7, 3) := by decide +kernel
theorem dX11_child_47 : decode cX11_child 47 = .ok (.iconst 1, 1) := by decide +kernel
theorem dX11_child_48 : decode cX11_child 48 = .ok (.goto 4, 3) := by decide +kernel
theorem dX11_child_51 : decode cX11_child 51 = .ok (.iconst 0, 1) := by decide +kernel
theorem dX11_child_52 : decode cX11_child 52 = .ok (.istore 6, 2) := by decide +kernel
theorem dX11_child_54 : decode cX11_child 54 = .ok (.iload 6, 2) := by decide +kernel
theorem dX11_child_56 : decode cX11_child 56 = .ok (.ifCond .ne 10, 3) := by decide +kernel
theorem dX11_child_59 : decode cX11_child 59 = .ok (.aload_n 0, 1) := by decide +kernel
theorem dX11_child_60 : decode cX11_child 60 = .ok (.bipush (-2), 2) := by decide +kernel
theorem dX11_child_62 : decode cX11_child 62 = .ok (.invokevirtual 61, 3) := by decide +kernel
theorem dX11_child_65 : decode cX11_child 65 = .ok (.ireturn, 1) := by decide +kernel
theorem dX11_child_66 : decode cX11_child 66 = .ok (.aload_n 0, 1) := by decide +kernel
theorem dX11_child_67 : decode cX11_child 67 = .ok (.getfield 10, 3) := by decide +kernel
theorem dX11_child_70 : decode cX11_child 70 = .ok (.getfield 65, 3) := by decide +kernel
theorem dX11_child_73 : decode cX11_child 73 = .ok (.bipush 6, 2) := by decide +kernel
theorem dX11_child_75 : decode cX11_child 75 = .ok (.if_icmp .lt 8, 3) := by decide +kernel
theorem dX11_child_78 : decode cX11_child 78 = .ok (.aload_n 0, 1) := by decide +kernel
theorem dX11_child_79 : decode cX11_child 79 = .ok (.invokevirtual 82, 3) := by decide +kernel
theorem dX11_child_82 : decode cX11_child 82 = .ok (.ireturn, 1) := by decide +kernel
theorem dX11_child_83 : decode cX11_child 83 = .ok (.aload_n 0, 1) := by decide +kernel
theorem dX11_child_84 : decode cX11_child 84 = .ok (.getfield 10, 3) := by decide +kernel
theorem dX11_child_87 : decode cX11_child 87 = .ok (.iload_n 1, 1) := by decide +kernel
theorem dX11_child_88 : decode cX11_child 88 = .ok (.iload_n 2, 1) := by decide +kernel
theorem dX11_child_89 : decode cX11_child 89 = .ok (.iload_n 3, 1) := by decide +kernel
theorem dX11_child_90 : decode cX11_child 90 = .ok (.iload 4, 2) := by decide +kernel
theorem dX11_child_92 : decode cX11_child 92 = .ok (.iload 5, 2) := by decide +kernel
theorem dX11_child_94 : decode cX11_child 94 = .ok (.invokevirtual 86, 3) := by decide +kernel
theorem dX11_child_97 : decode cX11_child 97 = .ok (.aload_n 0, 1) := by decide +kernel
theorem dX11_child_98 : decode cX11_child 98 = .ok (.getfield 10, 3) := by decide +kernel
theorem dX11_child_101 : decode cX11_child 101 = .ok (.getfield 65, 3) := by decide +kernel
theorem dX11_child_104 : decode cX11_child 104 = .ok (.iconst 1, 1) := by decide +kernel
theorem dX11_child_105 : decode cX11_child 105 = .ok (.isub, 1) := by decide +kernel
theorem dX11_child_106 : decode cX11_child 106 = .ok (.ireturn, 1) := by decide +kernel
theorem dX11_stand_0 : decode cX11_stand 0 = .ok (.aload_n 0, 1) := by decide +kernel
theorem dX11_stand_1 : decode cX11_stand 1 = .ok (.iload_n 1, 1) := by decide +kernel
theorem dX11_stand_2 : decode cX11_stand 2 = .ok (.invokevirtual 90, 3) := by decide +kernel
theorem dX11_stand_5 : decode cX11_stand 5 = .ok (.ifCond .eq 10, 3) := by decide +kernel
theorem dX11_stand_8 : decode cX11_stand 8 = .ok (.iload_n 2, 1) := by decide +kernel
theorem dX11_stand_9 : decode cX11_stand 9 = .ok (.invokestatic 78, 3) := by decide +kernel
theorem dX11_stand_12 : decode cX11_stand 12 = .ok (.ifCond .ne 10, 3) := by decide +kernel
theorem dX11_stand_15 : decode cX11_stand 15 = .ok (.aload_n 0, 1) := by decide +kernel
theorem dX11_stand_16 : decode cX11_stand 16 = .ok (.bipush (-2), 2) := by decide +kernel
theorem dX11_stand_18 : decode cX11_stand 18 = .ok (.invokevirtual 61, 3) := by decide +kernel
theorem dX11_stand_21 : decode cX11_stand 21 = .ok (.ireturn, 1) := by decide +kernel
theorem dX11_stand_22 : decode cX11_stand 22 = .ok (.aload_n 0, 1) := by decide +kernel
theorem dX11_stand_23 : decode cX11_stand 23 = .ok (.getfield 10, 3) := by decide +kernel
theorem dX11_stand_26 : decode cX11_stand 26 = .ok (.getfield 93, 3) := by decide +kernel
theorem dX11_stand_29 : decode cX11_stand 29 = .ok (.iload_n 1, 1) := by decide +kernel
theorem dX11_stand_30 : decode cX11_stand 30 = .ok (.iaload, 1) := by decide +kernel
theorem dX11_stand_31 : decode cX11_stand 31 = .ok (.istore_n 3, 1) := by decide +kernel
theorem dX11_stand_32 : decode cX11_stand 32 = .ok (.aload_n 0, 1) := by decide +kernel
theorem dX11_stand_33 : decode cX11_stand 33 = .ok (.getfield 10, 3) := by decide +kernel
theorem dX11_stand_36 : decode cX11_stand 36 = .ok (.iload_n 1, 1) := by decide +kernel
theorem dX11_stand_37 : decode cX11_stand 37 = .ok (.iconst 0, 1) := by decide +kernel
theorem dX11_stand_38 : decode cX11_stand 38 = .ok (.iload_n 3, 1) := by decide +kernel
theorem dX11_stand_39 : decode cX11_stand 39 = .ok (.invokevirtual 97, 3) := by decide +kernel
theorem dX11_stand_42 : decode cX11_stand 42 = .ok (.aload_n 0, 1) := by decide +kernel
theorem dX11_stand_43 : decode cX11_stand 43 = .ok (.getfield 10, 3) := by decide +kernel
theorem dX11_stand_46 : decode cX11_stand 46 = .ok (.getfield 93, 3) := by decide +kernel
theorem dX11_stand_49 : decode cX11_stand 49 = .ok (.iload_n 1, 1) := by decide +kernel
theorem dX11_stand_50 : decode cX11_stand 50 = .ok (.iload_n 2, 1) := by decide +kernel
theorem dX11_stand_51 : decode cX11_stand 51 = .ok (.iastore, 1) := by decide +kernel
theorem dX11_stand_52 : decode cX11_stand 52 = .ok (.iload_n 3, 1) := by decide +kernel
theorem dX11_stand_53 : decode cX11_stand 53 = .ok (.ireturn, 1) := by decide +kernel
theorem dX11_bed_0 : decode cX11_bed 0 = .ok (.aload_n 0, 1) := by decide +kernel
theorem dX11_bed_1 : decode cX11_bed 1 = .ok (.iload_n 1, 1) := by decide +kernel
theorem dX11_bed_2 : decode cX11_bed 2 = .ok (.invokevirtual 90, 3) := by decide +kernel
theorem dX11_bed_5 : decode cX11_bed 5 = .ok (.ifCond .eq 13, 3) := by decide +kernel
theorem dX11_bed_8 : decode cX11_bed 8 = .ok (.iload_n 2, 1) := by decide +kernel
theorem dX11_bed_9 : decode cX11_bed 9 = .ok (.iconst 0, 1) := by decide +kernel
theorem dX11_bed_10 : decode cX11_bed 10 = .ok (.bipush 60, 2) := by decide +kernel
theorem dX11_bed_12 : decode cX11_bed 12 = .ok (.invokestatic 57, 3) := by decide +kernel
theorem dX11_bed_15 : decode cX11_bed 15 = .ok (.ifCond .ne 10, 3) := by decide +kernel
theorem dX11_bed_18 : decode cX11_bed 18 = .ok (.aload_n 0, 1) := by decide +kernel
theorem dX11_bed_19 : decode cX11_bed 19 = .ok (.bipush (-2), 2) := by decide +kernel
theorem dX11_bed_21 : decode cX11_bed 21 = .ok (.invokevirtual 61, 3) := by decide +kernel
theorem dX11_bed_24 : decode cX11_bed 24 = .ok (.ireturn, 1) := by decide +kernel
theorem dX11_bed_25 : decode cX11_bed 25 = .ok (.aload_n 0, 1) := by decide +kernel
theorem dX11_bed_26 : decode cX11_bed 26 = .ok (.getfield 10, 3) := by decide +kernel
theorem dX11_bed_29 : decode cX11_bed 29 = .ok (.getfield 101, 3) := by decide +kernel
theorem dX11_bed_32 : decode cX11_bed 32 = .ok (.iload_n 1, 1) := by decide +kernel
theorem dX11_bed_33 : decode cX11_bed 33 = .ok (.iaload, 1) := by decide +kernel
theorem dX11_bed_34 : decode cX11_bed 34 = .ok (.istore_n 3, 1) := by decide +kernel
theorem dX11_bed_35 : decode cX11_bed 35 = .ok (.aload_n 0, 1) := by decide +kernel
theorem dX11_bed_36 : decode cX11_bed 36 = .ok (.getfield 10, 3) := by decide +kernel
theorem dX11_bed_39 : decode cX11_bed 39 = .ok (.iload_n 1, 1) := by decide +kernel
theorem dX11_bed_40 : decode cX11_bed 40 = .ok (.iconst 1, 1) := by decide +kernel
theorem dX11_bed_41 : decode cX11_bed 41 = .ok (.iload_n 3, 1) := by decide +kernel
theorem dX11_bed_42 : decode cX11_bed 42 = .ok (.invokevirtual 97, 3) := by decide +kernel
theorem dX11_bed_45 : decode cX11_bed 45 = .ok (.aload_n 0, 1) := by decide +kernel
theorem dX11_bed_46 : decode cX11_bed 46 = .ok (.getfield 10, 3) := by decide +kernel
theorem dX11_bed_49 : decode cX11_bed 49 = .ok (.getfield 101, 3) := by decide +kernel
theorem dX11_bed_52 : decode cX11_bed 52 = .ok (.iload_n 1, 1) := by decide +kernel
theorem dX11_bed_53 : decode cX11_bed 53 = .ok (.iload_n 2, 1) := by decide +kernel
theorem dX11_bed_54 : decode cX11_bed 54 = .ok (.iastore, 1) := by decide +kernel
theorem dX11_bed_55 : decode cX11_bed 55 = .ok (.iload_n 3, 1) := by decide +kernel
theorem dX11_bed_56 : decode cX11_bed 56 = .ok (.ireturn, 1) := by decide +kernel
theorem dX11_undo_0 : decode cX11_undo 0 = .ok (.aload_n 0, 1) := by decide +kernel
theorem dX11_undo_1 : decode cX11_undo 1 = .ok (.getfield 10, 3) := by decide +kernel
theorem dX11_undo_4 : decode cX11_undo 4 = .ok (.getfield 104, 3) := by decide +kernel
theorem dX11_undo_7 : decode cX11_undo 7 = .ok (.ifCond .gt 8, 3) := by decide +kernel
theorem dX11_undo_10 : decode cX11_undo 10 = .ok (.aload_n 0, 1) := by decide +kernel
theorem dX11_undo_11 : decode cX11_undo 11 = .ok (.invokevirtual 107, 3) := by decide +kernel
theorem dX11_undo_14 : decode cX11_undo 14 = .ok (.ireturn, 1) := by decide +kernel
theorem dX11_undo_15 : decode cX11_undo 15 = .ok (.aload_n 0, 1) := by decide +kernel
theorem dX11_undo_16 : decode cX11_undo 16 = .ok (.getfield 10, 3) := by decide +kernel
theorem dX11_undo_19 : decode cX11_undo 19 = .ok (.invokevirtual 110, 3) := by decide +kernel
theorem dX11_undo_22 : decode cX11_undo 22 = .ok (.aload_n 0, 1) := by decide +kernel
theorem dX11_undo_23 : decode cX11_undo 23 = .ok (.getfield 10, 3) := by decide +kernel
theorem dX11_undo_26 : decode cX11_undo 26 = .ok (.getfield 104, 3) := by decide +kernel
theorem dX11_undo_29 : decode cX11_undo 29 = .ok (.ireturn, 1) := by decide +kernel
theorem dX11_type_0 : decode cX11_type 0 = .ok (.iload_n 1, 1) := by decide +kernel
theorem dX11_type_1 : decode cX11_type 1 = .ok (.iconst 0, 1) := by decide +kernel
theorem dX11_type_2 : decode cX11_type 2 = .ok (.bipush 127, 2) := by decide +kernel
theorem dX11_type_4 : decode cX11_type 4 = .ok (.invokestatic 57, 3) := by decide +kernel
theorem dX11_type_7 : decode cX11_type 7 = .ok (.ifCond .ne 10, 3) := by decide +kernel
theorem dX11_type_10 : decode cX11_type 10 = .ok (.aload_n 0, 1) := by decide +kernel
theorem dX11_type_11 : decode cX11_type 11 = .ok (.bipush (-2), 2) := by decide +kernel
theorem dX11_type_13 : decode cX11_type 13 = .ok (.invokevirtual 61, 3) := by decide +kernel
theorem dX11_type_16 : decode cX11_type 16 = .ok (.ireturn, 1) := by decide +kernel
theorem dX11_type_17 : decode cX11_type 17 = .ok (.aload_n 0, 1) := by decide +kernel
theorem dX11_type_18 : decode cX11_type 18 = .ok (.getfield 28, 3) := by decide +kernel
theorem dX11_type_21 : decode cX11_type 21 = .ok (.getfield 113, 3) := by decide +kernel
theorem dX11_type_24 : decode cX11_type 24 = .ok (.sipush 150, 3) := by decide +kernel
theorem dX11_type_27 : decode cX11_type 27 = .ok (.if_icmp .lt 8, 3) := by decide +kernel
theorem dX11_type_30 : decode cX11_type 30 = .ok (.aload_n 0, 1) := by decide +kernel
theorem dX11_type_31 : decode cX11_type 31 = .ok (.invokevirtual 82, 3) := by decide +kernel
theorem dX11_type_34 : decode cX11_type 34 = .ok (.ireturn, 1) := by decide +kernel
theorem dX11_type_35 : decode cX11_type 35 = .ok (.aload_n 0, 1) := by decide +kernel
theorem dX11_type_36 : decode cX11_type 36 = .ok (.getfield 28, 3) := by decide +kernel
theorem dX11_type_39 : decode cX11_type 39 = .ok (.iload_n 1, 1) := by decide +kernel
theorem dX11_type_40 : decode cX11_type 40 = .ok (.invokevirtual 116, 3) := by decide +kernel
theorem dX11_type_43 : decode cX11_type 43 = .ok (.aload_n 0, 1) := by decide +kernel
theorem dX11_type_44 : decode cX11_type 44 = .ok (.getfield 28, 3) := by decide +kernel
theorem dX11_type_47 : decode cX11_type 47 = .ok (.getfield 113, 3) := by decide +kernel
theorem dX11_type_50 : decode cX11_type 50 = .ok (.ireturn, 1) := by decide +kernel
theorem dX11_clear_0 : decode cX11_clear 0 = .ok (.aload_n 0, 1) := by decide +kernel
theorem dX11_clear_1 : decode cX11_clear 1 = .ok (.getfield 28, 3) := by decide +kernel
theorem dX11_clear_4 : decode cX11_clear 4 = .ok (.getfield 113, 3) := by decide +kernel
theorem dX11_clear_7 : decode cX11_clear 7 = .ok (.istore_n 1, 1) := by decide +kernel
theorem dX11_clear_8 : decode cX11_clear 8 = .ok (.aload_n 0, 1) := by decide +kernel
theorem dX11_clear_9 : decode cX11_clear 9 = .ok (.getfield 28, 3) := by decide +kernel
theorem dX11_clear_12 : decode cX11_clear 12 = .ok (.iconst 0, 1) := by decide +kernel
theorem dX11_clear_13 : decode cX11_clear 13 = .ok (.putfield 113, 3) := by decide +kernel
theorem dX11_clear_16 : decode cX11_clear 16 = .ok (.iload_n 1, 1) := by decide +kernel
theorem dX11_clear_17 : decode cX11_clear 17 = .ok (.ireturn, 1) := by decide +kernel
theorem dX11_read_0 : decode cX11_read 0 = .ok (.aload_n 0, 1) := by decide +kernel
theorem dX11_read_1 : decode cX11_read 1 = .ok (.getfield 28, 3) := by decide +kernel
theorem dX11_read_4 : decode cX11_read 4 = .ok (.aload_n 0, 1) := by decide +kernel
theorem dX11_read_5 : decode cX11_read 5 = .ok (.getfield 16, 3) := by decide +kernel
theorem dX11_read_8 : decode cX11_read 8 = .ok (.invokevirtual 120, 3) := by decide +kernel
theorem dX11_read_11 : decode cX11_read 11 = .ok (.istore_n 1, 1) := by decide +kernel
theorem dX11_read_12 : decode cX11_read 12 = .ok (.iload_n 1, 1) := by decide +kernel
theorem dX11_read_13 : decode cX11_read 13 = .ok (.ifCond .le 14, 3) := by decide +kernel
theorem dX11_read_16 : decode cX11_read 16 = .ok (.aload_n 0, 1) := by decide +kernel
theorem dX11_read_17 : decode cX11_read 17 = .ok (.getfield 10, 3) := by decide +kernel
theorem dX11_read_20 : decode cX11_read 20 = .ok (.aload_n 0, 1) := by decide +kernel
theorem dX11_read_21 : decode cX11_read 21 = .ok (.getfield 16, 3) := by decide +kernel
theorem dX11_read_24 : decode cX11_read 24 = .ok (.invokevirtual 124, 3) := by decide +kernel
theorem dX11_read_27 : decode cX11_read 27 = .ok (.iload_n 1, 1) := by decide +kernel
theorem dX11_read_28 : decode cX11_read 28 = .ok (.ireturn, 1) := by decide +kernel
theorem dX11_of_0 : decode cX11_of 0 = .ok (.aload_n 0, 1) := by decide +kernel
theorem dX11_of_1 : decode cX11_of 1 = .ok (.iload_n 1, 1) := by decide +kernel
theorem dX11_of_2 : decode cX11_of 2 = .ok (.invokevirtual 90, 3) := by decide +kernel
theorem dX11_of_5 : decode cX11_of 5 = .ok (.ifCond .eq 10, 3) := by decide +kernel
theorem dX11_of_8 : decode cX11_of 8 = .ok (.iload_n 2, 1) := by decide +kernel
theorem dX11_of_9 : decode cX11_of 9 = .ok (.invokestatic 128, 3) := by decide +kernel
theorem dX11_of_12 : decode cX11_of 12 = .ok (.ifCond .ne 10, 3) := by decide +kernel
theorem dX11_of_15 : decode cX11_of 15 = .ok (.aload_n 0, 1) := by decide +kernel
theorem dX11_of_16 : decode cX11_of 16 = .ok (.bipush (-2), 2) := by decide +kernel
theorem dX11_of_18 : decode cX11_of 18 = .ok (.invokevirtual 61, 3) := by decide +kernel
theorem dX11_of_21 : decode cX11_of 21 = .ok (.ireturn, 1) := by decide +kernel
theorem dX11_of_22 : decode cX11_of 22 = .ok (.aload_n 0, 1) := by decide +kernel
theorem dX11_of_23 : decode cX11_of 23 = .ok (.getfield 35, 3) := by decide +kernel
theorem dX11_of_26 : decode cX11_of 26 = .ok (.aload_n 0, 1) := by decide +kernel
theorem dX11_of_27 : decode cX11_of 27 = .ok (.getfield 10, 3) := by decide +kernel
theorem dX11_of_30 : decode cX11_of 30 = .ok (.iload_n 2, 1) := by decide +kernel
theorem dX11_of_31 : decode cX11_of 31 = .ok (.invokevirtual 131, 3) := by decide +kernel
theorem dX11_of_34 : decode cX11_of 34 = .ok (.iload_n 3, 1) := by decide +kernel
theorem dX11_of_35 : decode cX11_of 35 = .ok (.tableswitch 97 0 5 #[37, 47, 57, 67, 77, 87], 37) := by decide +kernel
theorem dX11_of_72 : decode cX11_of 72 = .ok (.aload_n 0, 1) := by decide +kernel
theorem dX11_of_73 : decode cX11_of 73 = .ok (.getfield 10, 3) := by decide +kernel
theorem dX11_of_76 : decode cX11_of 76 = .ok (.getfield 135, 3) := by decide +kernel
theorem dX11_of_79 : decode cX11_of 79 = .ok (.iload_n 1, 1) := by decide +kernel
theorem dX11_of_80 : decode cX11_of 80 = .ok (.iaload, 1) := by decide +kernel
theorem dX11_of_81 : decode cX11_of 81 = .ok (.ireturn, 1) := by decide +kernel
theorem dX11_of_82 : decode cX11_of 82 = .ok (.aload_n 0, 1) := by decide +kernel
theorem dX11_of_83 : decode cX11_of 83 = .ok (.getfield 10, 3) := by decide +kernel
theorem dX11_of_86 : decode cX11_of 86 = .ok (.getfield 138, 3) := by decide +kernel
theorem dX11_of_89 : decode cX11_of 89 = .ok (.iload_n 1, 1) := by decide +kernel
theorem dX11_of_90 : decode cX11_of 90 = .ok (.iaload, 1) := by decide +kernel
theorem dX11_of_91 : decode cX11_of 91 = .ok (.ireturn, 1) := by decide +kernel
theorem dX11_of_92 : decode cX11_of 92 = .ok (.aload_n 0, 1) := by decide +kernel
theorem dX11_of_93 : decode cX11_of 93 = .ok (.getfield 35, 3) := by decide +kernel
theorem dX11_of_96 : decode cX11_of 96 = .ok (.getfield 141, 3) := by decide +kernel
theorem dX11_of_99 : decode cX11_of 99 = .ok (.iload_n 1, 1) := by decide +kernel
theorem dX11_of_100 : decode cX11_of 100 = .ok (.iaload, 1) := by decide +kernel
theorem dX11_of_101 : decode cX11_of 101 = .ok (.ireturn, 1) := by decide +kernel
theorem dX11_of_102 : decode cX11_of 102 = .ok (.aload_n 0, 1) := by decide +kernel
theorem dX11_of_103 : decode cX11_of 103 = .ok (.getfield 35, 3) := by decide +kernel
theorem dX11_of_106 : decode cX11_of 106 = .ok (.getfield 144, 3) := by decide +kernel
theorem dX11_of_109 : decode cX11_of 109 = .ok (.iload_n 1, 1) := by decide +kernel
theorem dX11_of_110 : decode cX11_of 110 = .ok (.iaload, 1) := by decide +kernel
theorem dX11_of_111 : decode cX11_of 111 = .ok (.ireturn, 1) := by decide +kernel
theorem dX11_of_112 : decode cX11_of 112 = .ok (.aload_n 0, 1) := by decide +kernel
theorem dX11_of_113 : decode cX11_of 113 = .ok (.getfield 10, 3) := by decide +kernel
theorem dX11_of_116 : decode cX11_of 116 = .ok (.getfield 147, 3) := by decide +kernel
theorem dX11_of_119 : decode cX11_of 119 = .ok (.iload_n 1, 1) := by decide +kernel
theorem dX11_of_120 : decode cX11_of 120 = .ok (.iaload, 1) := by decide +kernel
theorem dX11_of_121 : decode cX11_of 121 = .ok (.ireturn, 1) := by decide +kernel
theorem dX11_of_122 : decode cX11_of 122 = .ok (.aload_n 0, 1) := by decide +kernel
theorem dX11_of_123 : decode cX11_of 123 = .ok (.getfield 10, 3) := by decide +kernel
theorem dX11_of_126 : decode cX11_of 126 = .ok (.getfield 101, 3) := by decide +kernel
theorem dX11_of_129 : decode cX11_of 129 = .ok (.iload_n 1, 1) := by decide +kernel
theorem dX11_of_130 : decode cX11_of 130 = .ok (.iaload, 1) := by decide +kernel
theorem dX11_of_131 : decode cX11_of 131 = .ok (.ireturn, 1) := by decide +kernel
theorem dX11_of_132 : decode cX11_of 132 = .ok (.aload_n 0, 1) := by decide +kernel
theorem dX11_of_133 : decode cX11_of 133 = .ok (.bipush (-2), 2) := by decide +kernel
theorem dX11_of_135 : decode cX11_of 135 = .ok (.invokevirtual 61, 3) := by decide +kernel
theorem dX11_of_138 : decode cX11_of 138 = .ok (.ireturn, 1) := by decide +kernel
theorem dX11_limit_0 : decode cX11_limit 0 = .ok (.iload_n 1, 1) := by decide +kernel
theorem dX11_limit_1 : decode cX11_limit 1 = .ok (.invokestatic 78, 3) := by decide +kernel
theorem dX11_limit_4 : decode cX11_limit 4 = .ok (.ifCond .eq 17, 3) := by decide +kernel
theorem dX11_limit_7 : decode cX11_limit 7 = .ok (.iload_n 2, 1) := by decide +kernel
theorem dX11_limit_8 : decode cX11_limit 8 = .ok (.invokestatic 128, 3) := by decide +kernel
theorem dX11_limit_11 : decode cX11_limit 11 = .ok (.ifCond .eq 10, 3) := by decide +kernel
theorem dX11_limit_14 : decode cX11_limit 14 = .ok (.iload_n 3, 1) := by decide +kernel
theorem dX11_limit_15 : decode cX11_limit 15 = .ok (.invokestatic 150, 3) := by decide +kernel
theorem dX11_limit_18 : decode cX11_limit 18 = .ok (.ifCond .ne 10, 3) := by decide +kernel
theorem dX11_limit_21 : decode cX11_limit 21 = .ok (.aload_n 0, 1) := by decide +kernel
theorem dX11_limit_22 : decode cX11_limit 22 = .ok (.bipush (-10), 2) := by decide +kernel
theorem dX11_limit_24 : decode cX11_limit 24 = .ok (.invokevirtual 61, 3) := by decide +kernel
theorem dX11_limit_27 : decode cX11_limit 27 = .ok (.ireturn, 1) := by decide +kernel
theorem dX11_limit_28 : decode cX11_limit 28 = .ok (.aload_n 0, 1) := by decide +kernel
theorem dX11_limit_29 : decode cX11_limit 29 = .ok (.getfield 35, 3) := by decide +kernel
theorem dX11_limit_32 : decode cX11_limit 32 = .ok (.aload_n 0, 1) := by decide +kernel
theorem dX11_limit_33 : decode cX11_limit 33 = .ok (.getfield 10, 3) := by decide +kernel
theorem dX11_limit_36 : decode cX11_limit 36 = .ok (.iload_n 2, 1) := by decide +kernel
theorem dX11_limit_37 : decode cX11_limit 37 = .ok (.invokevirtual 131, 3) := by decide +kernel
theorem dX11_limit_40 : decode cX11_limit 40 = .ok (.iload_n 3, 1) := by decide +kernel
theorem dX11_limit_41 : decode cX11_limit 41 = .ok (.ifCond .ne 23, 3) := by decide +kernel
theorem dX11_limit_44 : decode cX11_limit 44 = .ok (.aload_n 0, 1) := by decide +kernel
theorem dX11_limit_45 : decode cX11_limit 45 = .ok (.getfield 35, 3) := by decide +kernel
theorem dX11_limit_48 : decode cX11_limit 48 = .ok (.aload_n 0, 1) := by decide +kernel
theorem dX11_limit_49 : decode cX11_limit 49 = .ok (.getfield 10, 3) := by decide +kernel
theorem dX11_limit_52 : decode cX11_limit 52 = .ok (.aload_n 0, 1) := by decide +kernel
theorem dX11_limit_53 : decode cX11_limit 53 = .ok (.getfield 10, 3) := by decide +kernel
theorem dX11_limit_56 : decode cX11_limit 56 = .ok (.invokevirtual 153, 3) := by decide +kernel
theorem dX11_limit_59 : decode cX11_limit 59 = .ok (.iload_n 1, 1) := by decide +kernel
theorem dX11_limit_60 : decode cX11_limit 60 = .ok (.invokevirtual 156, 3) := by decide +kernel
theorem dX11_limit_63 : decode cX11_limit 63 = .ok (.ireturn, 1) := by decide +kernel
theorem dX11_limit_64 : decode cX11_limit 64 = .ok (.aload_n 0, 1) := by decide +kernel
theorem dX11_limit_65 : decode cX11_limit 65 = .ok (.getfield 35, 3) := by decide +kernel
theorem dX11_limit_68 : decode cX11_limit 68 = .ok (.aload_n 0, 1) := by decide +kernel
theorem dX11_limit_69 : decode cX11_limit 69 = .ok (.getfield 10, 3) := by decide +kernel
theorem dX11_limit_72 : decode cX11_limit 72 = .ok (.iload_n 1, 1) := by decide +kernel
theorem dX11_limit_73 : decode cX11_limit 73 = .ok (.invokevirtual 160, 3) := by decide +kernel
theorem dX11_limit_76 : decode cX11_limit 76 = .ok (.ireturn, 1) := by decide +kernel
theorem dX11_where_0 : decode cX11_where 0 = .ok (.iload_n 1, 1) := by decide +kernel
theorem dX11_where_1 : decode cX11_where 1 = .ok (.invokestatic 128, 3) := by decide +kernel
theorem dX11_where_4 : decode cX11_where 4 = .ok (.ifCond .eq 13, 3) := by decide +kernel
theorem dX11_where_7 : decode cX11_where 7 = .ok (.iload_n 2, 1) := by decide +kernel
theorem dX11_where_8 : decode cX11_where 8 = .ok (.iconst 0, 1) := by decide +kernel
theorem dX11_where_9 : decode cX11_where 9 = .ok (.bipush 60, 2) := by decide +kernel
theorem dX11_where_11 : decode cX11_where 11 = .ok (.invokestatic 57, 3) := by decide +kernel
theorem dX11_where_14 : decode cX11_where 14 = .ok (.ifCond .ne 10, 3) := by decide +kernel
theorem dX11_where_17 : decode cX11_where 17 = .ok (.aload_n 0, 1) := by decide +kernel
theorem dX11_where_18 : decode cX11_where 18 = .ok (.bipush (-2), 2) := by decide +kernel
theorem dX11_where_20 : decode cX11_where 20 = .ok (.invokevirtual 61, 3) := by decide +kernel
theorem dX11_where_23 : decode cX11_where 23 = .ok (.ireturn, 1) := by decide +kernel
theorem dX11_where_24 : decode cX11_where 24 = .ok (.iload_n 2, 1) := by decide +kernel
theorem dX11_where_25 : decode cX11_where 25 = .ok (.iload_n 1, 1) := by decide +kernel
theorem dX11_where_26 : decode cX11_where 26 = .ok (.if_icmp .ge 7, 3) := by decide +kernel
theorem dX11_where_29 : decode cX11_where 29 = .ok (.iconst (-1), 1) := by decide +kernel
theorem dX11_where_30 : decode cX11_where 30 = .ok (.goto 16, 3) := by decide +kernel
theorem dX11_where_33 : decode cX11_where 33 = .ok (.aload_n 0, 1) := by decide +kernel
theorem dX11_where_34 : decode cX11_where 34 = .ok (.getfield 42, 3) := by decide +kernel
theorem dX11_where_37 : decode cX11_where 37 = .ok (.aload_n 0, 1) := by decide +kernel
theorem dX11_where_38 : decode cX11_where 38 = .ok (.getfield 10, 3) := by decide +kernel
theorem dX11_where_41 : decode cX11_where 41 = .ok (.iload_n 1, 1) := by decide +kernel
theorem dX11_where_42 : decode cX11_where 42 = .ok (.iload_n 2, 1) := by decide +kernel
theorem dX11_where_43 : decode cX11_where 43 = .ok (.invokevirtual 164, 3) := by decide +kernel
theorem dX11_where_46 : decode cX11_where 46 = .ok (.ireturn, 1) := by decide +kernel
theorem dX11_there_0 : decode cX11_there 0 = .ok (.iload_n 1, 1) := by decide +kernel
theorem dX11_there_1 : decode cX11_there 1 = .ok (.invokestatic 128, 3) := by decide +kernel
theorem dX11_there_4 : decode cX11_there 4 = .ok (.ifCond .ne 10, 3) := by decide +kernel
theorem dX11_there_7 : decode cX11_there 7 = .ok (.aload_n 0, 1) := by decide +kernel
theorem dX11_there_8 : decode cX11_there 8 = .ok (.bipush (-2), 2) := by decide +kernel
theorem dX11_there_10 : decode cX11_there 10 = .ok (.invokevirtual 61, 3) := by decide +kernel
theorem dX11_there_13 : decode cX11_there 13 = .ok (.ireturn, 1) := by decide +kernel
theorem dX11_there_14 : decode cX11_there 14 = .ok (.aload_n 0, 1) := by decide +kernel
theorem dX11_there_15 : decode cX11_there 15 = .ok (.getfield 42, 3) := by decide +kernel
theorem dX11_there_18 : decode cX11_there 18 = .ok (.aload_n 0, 1) := by decide +kernel
theorem dX11_there_19 : decode cX11_there 19 = .ok (.getfield 10, 3) := by decide +kernel
theorem dX11_there_22 : decode cX11_there 22 = .ok (.aload_n 0, 1) := by decide +kernel
theorem dX11_there_23 : decode cX11_there 23 = .ok (.getfield 10, 3) := by decide +kernel
theorem dX11_there_26 : decode cX11_there 26 = .ok (.invokevirtual 153, 3) := by decide +kernel
theorem dX11_there_29 : decode cX11_there 29 = .ok (.iload_n 1, 1) := by decide +kernel
theorem dX11_there_30 : decode cX11_there 30 = .ok (.invokevirtual 167, 3) := by decide +kernel
theorem dX11_there_33 : decode cX11_there 33 = .ok (.invokestatic 170, 3) := by decide +kernel
theorem dX11_there_36 : decode cX11_there 36 = .ok (.ireturn, 1) := by decide +kernel
theorem dX11_soonest_0 : decode cX11_soonest 0 = .ok (.iload_n 1, 1) := by decide +kernel
theorem dX11_soonest_1 : decode cX11_soonest 1 = .ok (.invokestatic 128, 3) := by decide +kernel
theorem dX11_soonest_4 : decode cX11_soonest 4 = .ok (.ifCond .ne 10, 3) := by decide +kernel
theorem dX11_soonest_7 : decode cX11_soonest 7 = .ok (.aload_n 0, 1) := by decide +kernel
theorem dX11_soonest_8 : decode cX11_soonest 8 = .ok (.bipush (-2), 2) := by decide +kernel
theorem dX11_soonest_10 : decode cX11_soonest 10 = .ok (.invokevirtual 61, 3) := by decide +kernel
theorem dX11_soonest_13 : decode cX11_soonest 13 = .ok (.ireturn, 1) := by decide +kernel
theorem dX11_soonest_14 : decode cX11_soonest 14 = .ok (.aload_n 0, 1) := by decide +kernel
theorem dX11_soonest_15 : decode cX11_soonest 15 = .ok (.getfield 42, 3) := by decide +kernel
theorem dX11_soonest_18 : decode cX11_soonest 18 = .ok (.aload_n 0, 1) := by decide +kernel
theorem dX11_soonest_19 : decode cX11_soonest 19 = .ok (.getfield 10, 3) := by decide +kernel
theorem dX11_soonest_22 : decode cX11_soonest 22 = .ok (.aload_n 0, 1) := by decide +kernel
theorem dX11_soonest_23 : decode cX11_soonest 23 = .ok (.getfield 10, 3) := by decide +kernel
theorem dX11_soonest_26 : decode cX11_soonest 26 = .ok (.invokevirtual 153, 3) := by decide +kernel
theorem dX11_soonest_29 : decode cX11_soonest 29 = .ok (.iload_n 1, 1) := by decide +kernel
theorem dX11_soonest_30 : decode cX11_soonest 30 = .ok (.invokevirtual 173, 3) := by decide +kernel
theorem dX11_soonest_33 : decode cX11_soonest 33 = .ok (.invokestatic 170, 3) := by decide +kernel
theorem dX11_soonest_36 : decode cX11_soonest 36 = .ok (.ireturn, 1) := by decide +kernel
theorem dX11_start_0 : decode cX11_start 0 = .ok (.iload_n 1, 1) := by decide +kernel
theorem dX11_start_1 : decode cX11_start 1 = .ok (.invokestatic 128, 3) := by decide +kernel
theorem dX11_start_4 : decode cX11_start 4 = .ok (.ifCond .ne 10, 3) := by decide +kernel
theorem dX11_start_7 : decode cX11_start 7 = .ok (.aload_n 0, 1) := by decide +kernel
theorem dX11_start_8 : decode cX11_start 8 = .ok (.bipush (-2), 2) := by decide +kernel
theorem dX11_start_10 : decode cX11_start 10 = .ok (.invokevirtual 61, 3) := by decide +kernel
theorem dX11_start_13 : decode cX11_start 13 = .ok (.ireturn, 1) := by decide +kernel
theorem dX11_start_14 : decode cX11_start 14 = .ok (.aload_n 0, 1) := by decide +kernel
theorem dX11_start_15 : decode cX11_start 15 = .ok (.getfield 42, 3) := by decide +kernel
theorem dX11_start_18 : decode cX11_start 18 = .ok (.aload_n 0, 1) := by decide +kernel
theorem dX11_start_19 : decode cX11_start 19 = .ok (.getfield 10, 3) := by decide +kernel
theorem dX11_start_22 : decode cX11_start 22 = .ok (.iload_n 1, 1) := by decide +kernel
theorem dX11_start_23 : decode cX11_start 23 = .ok (.invokevirtual 176, 3) := by decide +kernel
theorem dX11_start_26 : decode cX11_start 26 = .ok (.ireturn, 1) := by decide +kernel
theorem dX11_speed_0 : decode cX11_speed 0 = .ok (.iload_n 1, 1) := by decide +kernel
theorem dX11_speed_1 : decode cX11_speed 1 = .ok (.iconst 0, 1) := by decide +kernel
theorem dX11_speed_2 : decode cX11_speed 2 = .ok (.bipush 15, 2) := by decide +kernel
theorem dX11_speed_4 : decode cX11_speed 4 = .ok (.invokestatic 57, 3) := by decide +kernel
theorem dX11_speed_7 : decode cX11_speed 7 = .ok (.ifCond .ne 10, 3) := by decide +kernel
theorem dX11_speed_10 : decode cX11_speed 10 = .ok (.aload_n 0, 1) := by decide +kernel
theorem dX11_speed_11 : decode cX11_speed 11 = .ok (.bipush (-2), 2) := by decide +kernel
theorem dX11_speed_13 : decode cX11_speed 13 = .ok (.invokevirtual 61, 3) := by decide +kernel
theorem dX11_speed_16 : decode cX11_speed 16 = .ok (.ireturn, 1) := by decide +kernel
theorem dX11_speed_17 : decode cX11_speed 17 = .ok (.aload_n 0, 1) := by decide +kernel
theorem dX11_speed_18 : decode cX11_speed 18 = .ok (.getfield 10, 3) := by decide +kernel
theorem dX11_speed_21 : decode cX11_speed 21 = .ok (.getfield 179, 3) := by decide +kernel
theorem dX11_speed_24 : decode cX11_speed 24 = .ok (.bipush 20, 2) := by decide +kernel
theorem dX11_speed_26 : decode cX11_speed 26 = .ok (.if_icmp .lt 8, 3) := by decide +kernel
theorem dX11_speed_29 : decode cX11_speed 29 = .ok (.aload_n 0, 1) := by decide +kernel
theorem dX11_speed_30 : decode cX11_speed 30 = .ok (.invokevirtual 82, 3) := by decide +kernel
theorem dX11_speed_33 : decode cX11_speed 33 = .ok (.ireturn, 1) := by decide +kernel
theorem dX11_speed_34 : decode cX11_speed 34 = .ok (.aload_n 0, 1) := by decide +kernel
theorem dX11_speed_35 : decode cX11_speed 35 = .ok (.getfield 10, 3) := by decide +kernel
theorem dX11_speed_38 : decode cX11_speed 38 = .ok (.iload_n 1, 1) := by decide +kernel
theorem dX11_speed_39 : decode cX11_speed 39 = .ok (.invokevirtual 182, 3) := by decide +kernel
theorem dX11_speed_42 : decode cX11_speed 42 = .ok (.aload_n 0, 1) := by decide +kernel
theorem dX11_speed_43 : decode cX11_speed 43 = .ok (.getfield 10, 3) := by decide +kernel
theorem dX11_speed_46 : decode cX11_speed 46 = .ok (.getfield 179, 3) := by decide +kernel
theorem dX11_speed_49 : decode cX11_speed 49 = .ok (.ireturn, 1) := by decide +kernel
theorem dX11_stop_0 : decode cX11_stop 0 = .ok (.aload_n 0, 1) := by decide +kernel
theorem dX11_stop_1 : decode cX11_stop 1 = .ok (.getfield 10, 3) := by decide +kernel
theorem dX11_stop_4 : decode cX11_stop 4 = .ok (.getfield 179, 3) := by decide +kernel
theorem dX11_stop_7 : decode cX11_stop 7 = .ok (.istore_n 1, 1) := by decide +kernel
theorem dX11_stop_8 : decode cX11_stop 8 = .ok (.aload_n 0, 1) := by decide +kernel
theorem dX11_stop_9 : decode cX11_stop 9 = .ok (.getfield 10, 3) := by decide +kernel
theorem dX11_stop_12 : decode cX11_stop 12 = .ok (.iconst 0, 1) := by decide +kernel
theorem dX11_stop_13 : decode cX11_stop 13 = .ok (.putfield 179, 3) := by decide +kernel
theorem dX11_stop_16 : decode cX11_stop 16 = .ok (.iload_n 1, 1) := by decide +kernel
theorem dX11_stop_17 : decode cX11_stop 17 = .ok (.ireturn, 1) := by decide +kernel
theorem dX11_fined_0 : decode cX11_fined 0 = .ok (.iload_n 1, 1) := by decide +kernel
theorem dX11_fined_1 : decode cX11_fined 1 = .ok (.invokestatic 128, 3) := by decide +kernel
theorem dX11_fined_4 : decode cX11_fined 4 = .ok (.ifCond .eq 12, 3) := by decide +kernel
theorem dX11_fined_7 : decode cX11_fined 7 = .ok (.iload_n 2, 1) := by decide +kernel
theorem dX11_fined_8 : decode cX11_fined 8 = .ok (.iconst 0, 1) := by decide +kernel
theorem dX11_fined_9 : decode cX11_fined 9 = .ok (.iconst 2, 1) := by decide +kernel
theorem dX11_fined_10 : decode cX11_fined 10 = .ok (.invokestatic 57, 3) := by decide +kernel
theorem dX11_fined_13 : decode cX11_fined 13 = .ok (.ifCond .ne 10, 3) := by decide +kernel
theorem dX11_fined_16 : decode cX11_fined 16 = .ok (.aload_n 0, 1) := by decide +kernel
theorem dX11_fined_17 : decode cX11_fined 17 = .ok (.bipush (-10), 2) := by decide +kernel
theorem dX11_fined_19 : decode cX11_fined 19 = .ok (.invokevirtual 61, 3) := by decide +kernel
theorem dX11_fined_22 : decode cX11_fined 22 = .ok (.ireturn, 1) := by decide +kernel
theorem dX11_fined_23 : decode cX11_fined 23 = .ok (.aload_n 0, 1) := by decide +kernel
theorem dX11_fined_24 : decode cX11_fined 24 = .ok (.getfield 42, 3) := by decide +kernel
theorem dX11_fined_27 : decode cX11_fined 27 = .ok (.aload_n 0, 1) := by decide +kernel
theorem dX11_fined_28 : decode cX11_fined 28 = .ok (.getfield 10, 3) := by decide +kernel
theorem dX11_fined_31 : decode cX11_fined 31 = .ok (.iload_n 1, 1) := by decide +kernel
theorem dX11_fined_32 : decode cX11_fined 32 = .ok (.iload_n 2, 1) := by decide +kernel
theorem dX11_fined_33 : decode cX11_fined 33 = .ok (.invokevirtual 185, 3) := by decide +kernel
theorem dX11_fined_36 : decode cX11_fined 36 = .ok (.ireturn, 1) := by decide +kernel
theorem dX11_toBed_0 : decode cX11_toBed 0 = .ok (.iload_n 1, 1) := by decide +kernel
theorem dX11_toBed_1 : decode cX11_toBed 1 = .ok (.invokestatic 128, 3) := by decide +kernel
theorem dX11_toBed_4 : decode cX11_toBed 4 = .ok (.ifCond .eq 20, 3) := by decide +kernel
theorem dX11_toBed_7 : decode cX11_toBed 7 = .ok (.iload_n 2, 1) := by decide +kernel
theorem dX11_toBed_8 : decode cX11_toBed 8 = .ok (.iconst 0, 1) := by decide +kernel
theorem dX11_toBed_9 : decode cX11_toBed 9 = .ok (.bipush 6, 2) := by decide +kernel
theorem dX11_toBed_11 : decode cX11_toBed 11 = .ok (.invokestatic 57, 3) := by decide +kernel
theorem dX11_toBed_14 : decode cX11_toBed 14 = .ok (.ifCond .eq 10, 3) := by decide +kernel
theorem dX11_toBed_17 : decode cX11_toBed 17 = .ok (.iload_n 3, 1) := by decide +kernel
theorem dX11_toBed_18 : decode cX11_toBed 18 = .ok (.invokestatic 150, 3) := by decide +kernel
theorem dX11_toBed_21 : decode cX11_toBed 21 = .ok (.ifCond .ne 10, 3) := by decide +kernel
theorem dX11_toBed_24 : decode cX11_toBed 24 = .ok (.aload_n 0, 1) := by decide +kernel
theorem dX11_toBed_25 : decode cX11_toBed 25 = .ok (.bipush (-2), 2) := by decide +kernel
theorem dX11_toBed_27 : decode cX11_toBed 27 = .ok (.invokevirtual 61, 3) := by decide +kernel
theorem dX11_toBed_30 : decode cX11_toBed 30 = .ok (.ireturn, 1) := by decide +kernel
theorem dX11_toBed_31 : decode cX11_toBed 31 = .ok (.aload_n 0, 1) := by decide +kernel
theorem dX11_toBed_32 : decode cX11_toBed 32 = .ok (.getfield 42, 3) := by decide +kernel
theorem dX11_toBed_35 : decode cX11_toBed 35 = .ok (.aload_n 0, 1) := by decide +kernel
theorem dX11_toBed_36 : decode cX11_toBed 36 = .ok (.getfield 10, 3) := by decide +kernel
theorem dX11_toBed_39 : decode cX11_toBed 39 = .ok (.iload_n 1, 1) := by decide +kernel
theorem dX11_toBed_40 : decode cX11_toBed 40 = .ok (.iload_n 2, 1) := by decide +kernel
theorem dX11_toBed_41 : decode cX11_toBed 41 = .ok (.invokevirtual 188, 3) := by decide +kernel
theorem dX11_toBed_44 : decode cX11_toBed 44 = .ok (.istore 4, 2) := by decide +kernel
theorem dX11_toBed_46 : decode cX11_toBed 46 = .ok (.iload_n 3, 1) := by decide +kernel
theorem dX11_toBed_47 : decode cX11_toBed 47 = .ok (.ifCond .ne 8, 3) := by decide +kernel
theorem dX11_toBed_50 : decode cX11_toBed 50 = .ok (.iload 4, 2) := by decide +kernel
theorem dX11_toBed_52 : decode cX11_toBed 52 = .ok (.goto 27, 3) := by decide +kernel
theorem dX11_toBed_55 : decode cX11_toBed 55 = .ok (.aload_n 0, 1) := by decide +kernel
theorem dX11_toBed_56 : decode cX11_toBed 56 = .ok (.getfield 42, 3) := by decide +kernel
theorem dX11_toBed_59 : decode cX11_toBed 59 = .ok (.aload_n 0, 1) := by decide +kernel
theorem dX11_toBed_60 : decode cX11_toBed 60 = .ok (.getfield 10, 3) := by decide +kernel
theorem dX11_toBed_63 : decode cX11_toBed 63 = .ok (.aload_n 0, 1) := by decide +kernel
theorem dX11_toBed_64 : decode cX11_toBed 64 = .ok (.getfield 10, 3) := by decide +kernel
theorem dX11_toBed_67 : decode cX11_toBed 67 = .ok (.invokevirtual 153, 3) := by decide +kernel
theorem dX11_toBed_70 : decode cX11_toBed 70 = .ok (.iload 4, 2) := by decide +kernel
theorem dX11_toBed_72 : decode cX11_toBed 72 = .ok (.iconst (-1), 1) := by decide +kernel
theorem dX11_toBed_73 : decode cX11_toBed 73 = .ok (.ixor, 1) := by decide +kernel
theorem dX11_toBed_74 : decode cX11_toBed 74 = .ok (.iand, 1) := by decide +kernel
theorem dX11_toBed_75 : decode cX11_toBed 75 = .ok (.iload_n 1, 1) := by decide +kernel
theorem dX11_toBed_76 : decode cX11_toBed 76 = .ok (.invokevirtual 173, 3) := by decide +kernel
theorem dX11_toBed_79 : decode cX11_toBed 79 = .ok (.ireturn, 1) := by decide +kernel
theorem dX11_move_0 : decode cX11_move 0 = .ok (.iload_n 1, 1) := by decide +kernel
theorem dX11_move_1 : decode cX11_move 1 = .ok (.invokestatic 128, 3) := by decide +kernel
theorem dX11_move_4 : decode cX11_move 4 = .ok (.ifCond .ne 10, 3) := by decide +kernel
theorem dX11_move_7 : decode cX11_move 7 = .ok (.aload_n 0, 1) := by decide +kernel
theorem dX11_move_8 : decode cX11_move 8 = .ok (.bipush (-2), 2) := by decide +kernel
theorem dX11_move_10 : decode cX11_move 10 = .ok (.invokevirtual 61, 3) := by decide +kernel
theorem dX11_move_13 : decode cX11_move 13 = .ok (.ireturn, 1) := by decide +kernel
theorem dX11_move_14 : decode cX11_move 14 = .ok (.aload_n 0, 1) := by decide +kernel
theorem dX11_move_15 : decode cX11_move 15 = .ok (.getfield 16, 3) := by decide +kernel
theorem dX11_move_18 : decode cX11_move 18 = .ok (.aload_n 0, 1) := by decide +kernel
theorem dX11_move_19 : decode cX11_move 19 = .ok (.getfield 10, 3) := by decide +kernel
theorem dX11_move_22 : decode cX11_move 22 = .ok (.invokevirtual 124, 3) := by decide +kernel
theorem dX11_move_25 : decode cX11_move 25 = .ok (.aload_n 0, 1) := by decide +kernel
theorem dX11_move_26 : decode cX11_move 26 = .ok (.getfield 42, 3) := by decide +kernel
theorem dX11_move_29 : decode cX11_move 29 = .ok (.aload_n 0, 1) := by decide +kernel
theorem dX11_move_30 : decode cX11_move 30 = .ok (.getfield 16, 3) := by decide +kernel
theorem dX11_move_33 : decode cX11_move 33 = .ok (.iload_n 1, 1) := by decide +kernel
theorem dX11_move_34 : decode cX11_move 34 = .ok (.invokevirtual 191, 3) := by decide +kernel
theorem dX11_move_37 : decode cX11_move 37 = .ok (.ireturn, 1) := by decide +kernel
theorem dX11_carters_0 : decode cX11_carters 0 = .ok (.iload_n 1, 1) := by decide +kernel
theorem dX11_carters_1 : decode cX11_carters 1 = .ok (.iconst 0, 1) := by decide +kernel
theorem dX11_carters_2 : decode cX11_carters 2 = .ok (.bipush 50, 2) := by decide +kernel
theorem dX11_carters_4 : decode cX11_carters 4 = .ok (.invokestatic 57, 3) := by decide +kernel
theorem dX11_carters_7 : decode cX11_carters 7 = .ok (.ifCond .eq 10, 3) := by decide +kernel
theorem dX11_carters_10 : decode cX11_carters 10 = .ok (.iload_n 2, 1) := by decide +kernel
theorem dX11_carters_11 : decode cX11_carters 11 = .ok (.invokestatic 150, 3) := by decide +kernel
theorem dX11_carters_14 : decode cX11_carters 14 = .ok (.ifCond .ne 10, 3) := by decide +kernel
theorem dX11_carters_17 : decode cX11_carters 17 = .ok (.aload_n 0, 1) := by decide +kernel
theorem dX11_carters_18 : decode cX11_carters 18 = .ok (.bipush (-10), 2) := by decide +kernel
theorem dX11_carters_20 : decode cX11_carters 20 = .ok (.invokevirtual 61, 3) := by decide +kernel
theorem dX11_carters_23 : decode cX11_carters 23 = .ok (.ireturn, 1) := by decide +kernel
theorem dX11_carters_24 : decode cX11_carters 24 = .ok (.aload_n 0, 1) := by decide +kernel
theorem dX11_carters_25 : decode cX11_carters 25 = .ok (.getfield 42, 3) := by decide +kernel
theorem dX11_carters_28 : decode cX11_carters 28 = .ok (.aload_n 0, 1) := by decide +kernel
theorem dX11_carters_29 : decode cX11_carters 29 = .ok (.getfield 10, 3) := by decide +kernel
theorem dX11_carters_32 : decode cX11_carters 32 = .ok (.iload_n 1, 1) := by decide +kernel
theorem dX11_carters_33 : decode cX11_carters 33 = .ok (.iload_n 2, 1) := by decide +kernel
theorem dX11_carters_34 : decode cX11_carters 34 = .ok (.invokevirtual 194, 3) := by decide +kernel
theorem dX11_carters_37 : decode cX11_carters 37 = .ok (.ireturn, 1) := by decide +kernel
theorem dX11_reading_0 : decode cX11_reading 0 = .ok (.iload_n 1, 1) := by decide +kernel
theorem dX11_reading_1 : decode cX11_reading 1 = .ok (.invokestatic 78, 3) := by decide +kernel
theorem dX11_reading_4 : decode cX11_reading 4 = .ok (.ifCond .eq 20, 3) := by decide +kernel
theorem dX11_reading_7 : decode cX11_reading 7 = .ok (.iload_n 2, 1) := by decide +kernel
theorem dX11_reading_8 : decode cX11_reading 8 = .ok (.invokestatic 128, 3) := by decide +kernel
theorem dX11_reading_11 : decode cX11_reading 11 = .ok (.ifCond .eq 13, 3) := by decide +kernel
theorem dX11_reading_14 : decode cX11_reading 14 = .ok (.iload_n 3, 1) := by decide +kernel
theorem dX11_reading_15 : decode cX11_reading 15 = .ok (.iconst 1, 1) := by decide +kernel
theorem dX11_reading_16 : decode cX11_reading 16 = .ok (.bipush 9, 2) := by decide +kernel
theorem dX11_reading_18 : decode cX11_reading 18 = .ok (.invokestatic 57, 3) := by decide +kernel
theorem dX11_reading_21 : decode cX11_reading 21 = .ok (.ifCond .ne 10, 3) := by decide +kernel
theorem dX11_reading_24 : decode cX11_reading 24 = .ok (.aload_n 0, 1) := by decide +kernel
theorem dX11_reading_25 : decode cX11_reading 25 = .ok (.bipush (-2), 2) := by decide +kernel
theorem dX11_reading_27 : decode cX11_reading 27 = .ok (.invokevirtual 61, 3) := by decide +kernel
theorem dX11_reading_30 : decode cX11_reading 30 = .ok (.ireturn, 1) := by decide +kernel
theorem dX11_reading_31 : decode cX11_reading 31 = .ok (.aload_n 0, 1) := by decide +kernel
theorem dX11_reading_32 : decode cX11_reading 32 = .ok (.getfield 10, 3) := by decide +kernel
theorem dX11_reading_35 : decode cX11_reading 35 = .ok (.getfield 197, 3) := by decide +kernel
theorem dX11_reading_38 : decode cX11_reading 38 = .ok (.bipush 6, 2) := by decide +kernel
theorem dX11_reading_40 : decode cX11_reading 40 = .ok (.if_icmp .lt 8, 3) := by decide +kernel
theorem dX11_reading_43 : decode cX11_reading 43 = .ok (.aload_n 0, 1) := by decide +kernel
theorem dX11_reading_44 : decode cX11_reading 44 = .ok (.invokevirtual 82, 3) := by decide +kernel
theorem dX11_reading_47 : decode cX11_reading 47 = .ok (.ireturn, 1) := by decide +kernel
theorem dX11_reading_48 : decode cX11_reading 48 = .ok (.aload_n 0, 1) := by decide +kernel
theorem dX11_reading_49 : decode cX11_reading 49 = .ok (.getfield 10, 3) := by decide +kernel
theorem dX11_reading_52 : decode cX11_reading 52 = .ok (.iload_n 1, 1) := by decide +kernel
theorem dX11_reading_53 : decode cX11_reading 53 = .ok (.iload_n 2, 1) := by decide +kernel
theorem dX11_reading_54 : decode cX11_reading 54 = .ok (.iload_n 3, 1) := by decide +kernel
theorem dX11_reading_55 : decode cX11_reading 55 = .ok (.invokevirtual 200, 3) := by decide +kernel
theorem dX11_reading_58 : decode cX11_reading 58 = .ok (.aload_n 0, 1) := by decide +kernel
theorem dX11_reading_59 : decode cX11_reading 59 = .ok (.getfield 10, 3) := by decide +kernel
theorem dX11_reading_62 : decode cX11_reading 62 = .ok (.getfield 197, 3) := by decide +kernel
theorem dX11_reading_65 : decode cX11_reading 65 = .ok (.ireturn, 1) := by decide +kernel
theorem dX11_forget_0 : decode cX11_forget 0 = .ok (.aload_n 0, 1) := by decide +kernel
theorem dX11_forget_1 : decode cX11_forget 1 = .ok (.getfield 10, 3) := by decide +kernel
theorem dX11_forget_4 : decode cX11_forget 4 = .ok (.getfield 197, 3) := by decide +kernel
theorem dX11_forget_7 : decode cX11_forget 7 = .ok (.istore_n 1, 1) := by decide +kernel
theorem dX11_forget_8 : decode cX11_forget 8 = .ok (.aload_n 0, 1) := by decide +kernel
theorem dX11_forget_9 : decode cX11_forget 9 = .ok (.getfield 10, 3) := by decide +kernel
theorem dX11_forget_12 : decode cX11_forget 12 = .ok (.iconst 0, 1) := by decide +kernel
theorem dX11_forget_13 : decode cX11_forget 13 = .ok (.putfield 197, 3) := by decide +kernel
theorem dX11_forget_16 : decode cX11_forget 16 = .ok (.iload_n 1, 1) := by decide +kernel
theorem dX11_forget_17 : decode cX11_forget 17 = .ok (.ireturn, 1) := by decide +kernel
theorem dX11_out_0 : decode cX11_out 0 = .ok (.iload_n 1, 1) := by decide +kernel
theorem dX11_out_1 : decode cX11_out 1 = .ok (.invokestatic 150, 3) := by decide +kernel
theorem dX11_out_4 : decode cX11_out 4 = .ok (.ifCond .ne 10, 3) := by decide +kernel
theorem dX11_out_7 : decode cX11_out 7 = .ok (.aload_n 0, 1) := by decide +kernel
theorem dX11_out_8 : decode cX11_out 8 = .ok (.bipush (-10), 2) := by decide +kernel
theorem dX11_out_10 : decode cX11_out 10 = .ok (.invokevirtual 61, 3) := by decide +kernel
theorem dX11_out_13 : decode cX11_out 13 = .ok (.ireturn, 1) := by decide +kernel
theorem dX11_out_14 : decode cX11_out 14 = .ok (.aload_n 0, 1) := by decide +kernel
theorem dX11_out_15 : decode cX11_out 15 = .ok (.getfield 49, 3) := by decide +kernel
theorem dX11_out_18 : decode cX11_out 18 = .ok (.aload_n 0, 1) := by decide +kernel
theorem dX11_out_19 : decode cX11_out 19 = .ok (.getfield 10, 3) := by decide +kernel
theorem dX11_out_22 : decode cX11_out 22 = .ok (.invokevirtual 204, 3) := by decide +kernel
theorem dX11_out_25 : decode cX11_out 25 = .ok (.lstore_n 2, 1) := by decide +kernel
theorem dX11_out_26 : decode cX11_out 26 = .ok (.iload_n 1, 1) := by decide +kernel
theorem dX11_out_27 : decode cX11_out 27 = .ok (.ifCond .ne 10, 3) := by decide +kernel
theorem dX11_out_30 : decode cX11_out 30 = .ok (.lload_n 2, 1) := by decide +kernel
theorem dX11_out_31 : decode cX11_out 31 = .ok (.invokestatic 208, 3) := by decide +kernel
theorem dX11_out_34 : decode cX11_out 34 = .ok (.goto 15, 3) := by decide +kernel
theorem dX11_out_37 : decode cX11_out 37 = .ok (.aload_n 0, 1) := by decide +kernel
theorem dX11_out_38 : decode cX11_out 38 = .ok (.getfield 49, 3) := by decide +kernel
theorem dX11_out_41 : decode cX11_out 41 = .ok (.aload_n 0, 1) := by decide +kernel
theorem dX11_out_42 : decode cX11_out 42 = .ok (.getfield 10, 3) := by decide +kernel
theorem dX11_out_45 : decode cX11_out 45 = .ok (.lload_n 2, 1) := by decide +kernel
theorem dX11_out_46 : decode cX11_out 46 = .ok (.invokevirtual 214, 3) := by decide +kernel
theorem dX11_out_49 : decode cX11_out 49 = .ok (.ireturn, 1) := by decide +kernel
theorem dX11_look_0 : decode cX11_look 0 = .ok (.iload_n 1, 1) := by decide +kernel
theorem dX11_look_1 : decode cX11_look 1 = .ok (.invokestatic 128, 3) := by decide +kernel
theorem dX11_look_4 : decode cX11_look 4 = .ok (.ifCond .ne 10, 3) := by decide +kernel
theorem dX11_look_7 : decode cX11_look 7 = .ok (.aload_n 0, 1) := by decide +kernel
theorem dX11_look_8 : decode cX11_look 8 = .ok (.bipush (-2), 2) := by decide +kernel
theorem dX11_look_10 : decode cX11_look 10 = .ok (.invokevirtual 61, 3) := by decide +kernel
theorem dX11_look_13 : decode cX11_look 13 = .ok (.ireturn, 1) := by decide +kernel
theorem dX11_look_14 : decode cX11_look 14 = .ok (.aload_n 0, 1) := by decide +kernel
theorem dX11_look_15 : decode cX11_look 15 = .ok (.getfield 49, 3) := by decide +kernel
theorem dX11_look_18 : decode cX11_look 18 = .ok (.aload_n 0, 1) := by decide +kernel
theorem dX11_look_19 : decode cX11_look 19 = .ok (.getfield 10, 3) := by decide +kernel
theorem dX11_look_22 : decode cX11_look 22 = .ok (.aload_n 0, 1) := by decide +kernel
theorem dX11_look_23 : decode cX11_look 23 = .ok (.getfield 49, 3) := by decide +kernel
theorem dX11_look_26 : decode cX11_look 26 = .ok (.aload_n 0, 1) := by decide +kernel
theorem dX11_look_27 : decode cX11_look 27 = .ok (.getfield 10, 3) := by decide +kernel
theorem dX11_look_30 : decode cX11_look 30 = .ok (.invokevirtual 204, 3) := by decide +kernel
theorem dX11_look_33 : decode cX11_look 33 = .ok (.iload_n 1, 1) := by decide +kernel
theorem dX11_look_34 : decode cX11_look 34 = .ok (.invokevirtual 218, 3) := by decide +kernel
theorem dX11_look_37 : decode cX11_look 37 = .ok (.ireturn, 1) := by decide +kernel
theorem dX11_dolls_0 : decode cX11_dolls 0 = .ok (.aload_n 0, 1) := by decide +kernel
theorem dX11_dolls_1 : decode cX11_dolls 1 = .ok (.getfield 16, 3) := by decide +kernel
theorem dX11_dolls_4 : decode cX11_dolls 4 = .ok (.aload_n 0, 1) := by decide +kernel
theorem dX11_dolls_5 : decode cX11_dolls 5 = .ok (.getfield 10, 3) := by decide +kernel
theorem dX11_dolls_8 : decode cX11_dolls 8 = .ok (.invokevirtual 124, 3) := by decide +kernel
theorem dX11_dolls_11 : decode cX11_dolls 11 = .ok (.aload_n 0, 1) := by decide +kernel
theorem dX11_dolls_12 : decode cX11_dolls 12 = .ok (.getfield 49, 3) := by decide +kernel
theorem dX11_dolls_15 : decode cX11_dolls 15 = .ok (.aload_n 0, 1) := by decide +kernel
theorem dX11_dolls_16 : decode cX11_dolls 16 = .ok (.getfield 16, 3) := by decide +kernel
theorem dX11_dolls_19 : decode cX11_dolls 19 = .ok (.invokevirtual 222, 3) := by decide +kernel
theorem dX11_dolls_22 : decode cX11_dolls 22 = .ok (.ireturn, 1) := by decide +kernel
theorem dX11_days_0 : decode cX11_days 0 = .ok (.iload_n 1, 1) := by decide +kernel
theorem dX11_days_1 : decode cX11_days 1 = .ok (.iconst 0, 1) := by decide +kernel
theorem dX11_days_2 : decode cX11_days 2 = .ok (.ldc 225, 2) := by decide +kernel
theorem dX11_days_4 : decode cX11_days 4 = .ok (.invokestatic 57, 3) := by decide +kernel
theorem dX11_days_7 : decode cX11_days 7 = .ok (.ifCond .eq 23, 3) := by decide +kernel
theorem dX11_days_10 : decode cX11_days 10 = .ok (.iload_n 2, 1) := by decide +kernel
theorem dX11_days_11 : decode cX11_days 11 = .ok (.iconst 0, 1) := by decide +kernel
theorem dX11_days_12 : decode cX11_days 12 = .ok (.bipush 30, 2) := by decide +kernel
theorem dX11_days_14 : decode cX11_days 14 = .ok (.invokestatic 57, 3) := by decide +kernel
theorem dX11_days_17 : decode cX11_days 17 = .ok (.ifCond .eq 13, 3) := by decide +kernel
theorem dX11_days_20 : decode cX11_days 20 = .ok (.iload_n 3, 1) := by decide +kernel
theorem dX11_days_21 : decode cX11_days 21 = .ok (.iconst 0, 1) := by decide +kernel
theorem dX11_days_22 : decode cX11_days 22 = .ok (.bipush 100, 2) := by decide +kernel
theorem dX11_days_24 : decode cX11_days 24 = .ok (.invokestatic 57, 3) := by decide +kernel
theorem dX11_days_27 : decode cX11_days 27 = .ok (.ifCond .ne 10, 3) := by decide +kernel
theorem dX11_days_30 : decode cX11_days 30 = .ok (.aload_n 0, 1) := by decide +kernel
theorem dX11_days_31 : decode cX11_days 31 = .ok (.bipush (-2), 2) := by decide +kernel
theorem dX11_days_33 : decode cX11_days 33 = .ok (.invokevirtual 61, 3) := by decide +kernel
theorem dX11_days_36 : decode cX11_days 36 = .ok (.ireturn, 1) := by decide +kernel
theorem dX11_days_37 : decode cX11_days 37 = .ok (.iload_n 2, 1) := by decide +kernel
theorem dX11_days_38 : decode cX11_days 38 = .ok (.ifCond .ne 8, 3) := by decide +kernel
theorem dX11_days_41 : decode cX11_days 41 = .ok (.aload_n 0, 1) := by decide +kernel
theorem dX11_days_42 : decode cX11_days 42 = .ok (.invokevirtual 107, 3) := by decide +kernel
theorem dX11_days_45 : decode cX11_days 45 = .ok (.ireturn, 1) := by decide +kernel
theorem dX11_days_46 : decode cX11_days 46 = .ok (.aload_n 0, 1) := by decide +kernel
theorem dX11_days_47 : decode cX11_days 47 = .ok (.aload_n 0, 1) := by decide +kernel
theorem dX11_days_48 : decode cX11_days 48 = .ok (.getfield 42, 3) := by decide +kernel
theorem dX11_days_51 : decode cX11_days 51 = .ok (.aload_n 0, 1) := by decide +kernel
theorem dX11_days_52 : decode cX11_days 52 = .ok (.getfield 10, 3) := by decide +kernel
theorem dX11_days_55 : decode cX11_days 55 = .ok (.iload_n 1, 1) := by decide +kernel
theorem dX11_days_56 : decode cX11_days 56 = .ok (.iload_n 2, 1) := by decide +kernel
theorem dX11_days_57 : decode cX11_days 57 = .ok (.iload_n 3, 1) := by decide +kernel
theorem dX11_days_58 : decode cX11_days 58 = .ok (.invokevirtual 226, 3) := by decide +kernel
theorem dX11_days_61 : decode cX11_days 61 = .ok (.iload_n 2, 1) := by decide +kernel
theorem dX11_days_62 : decode cX11_days 62 = .ok (.invokevirtual 230, 3) := by decide +kernel
theorem dX11_days_65 : decode cX11_days 65 = .ok (.iconst 1, 1) := by decide +kernel
theorem dX11_days_66 : decode cX11_days 66 = .ok (.ireturn, 1) := by decide +kernel
theorem dX11_part_0 : decode cX11_part 0 = .ok (.iload_n 1, 1) := by decide +kernel
theorem dX11_part_1 : decode cX11_part 1 = .ok (.invokestatic 150, 3) := by decide +kernel
theorem dX11_part_4 : decode cX11_part 4 = .ok (.ifCond .ne 11, 3) := by decide +kernel
theorem dX11_part_7 : decode cX11_part 7 = .ok (.aload_n 0, 1) := by decide +kernel
theorem dX11_part_8 : decode cX11_part 8 = .ok (.bipush (-2), 2) := by decide +kernel
theorem dX11_part_10 : decode cX11_part 10 = .ok (.invokevirtual 61, 3) := by decide +kernel
theorem dX11_part_13 : decode cX11_part 13 = .ok (.i2l, 1) := by decide +kernel
theorem dX11_part_14 : decode cX11_part 14 = .ok (.lreturn, 1) := by decide +kernel
theorem dX11_part_15 : decode cX11_part 15 = .ok (.iload_n 1, 1) := by decide +kernel
theorem dX11_part_16 : decode cX11_part 16 = .ok (.ifCond .ne 11, 3) := by decide +kernel
theorem dX11_part_19 : decode cX11_part 19 = .ok (.aload_n 0, 1) := by decide +kernel
theorem dX11_part_20 : decode cX11_part 20 = .ok (.getfield 233, 3) := by decide +kernel
theorem dX11_part_23 : decode cX11_part 23 = .ok (.i2l, 1) := by decide +kernel
theorem dX11_part_24 : decode cX11_part 24 = .ok (.goto 8, 3) := by decide +kernel
theorem dX11_part_27 : decode cX11_part 27 = .ok (.aload_n 0, 1) := by decide +kernel
theorem dX11_part_28 : decode cX11_part 28 = .ok (.getfield 53, 3) := by decide +kernel
theorem dX11_part_31 : decode cX11_part 31 = .ok (.i2l, 1) := by decide +kernel
theorem dX11_part_32 : decode cX11_part 32 = .ok (.lreturn, 1) := by decide +kernel
theorem dX11_image_0 : decode cX11_image 0 = .ok (.iload_n 1, 1) := by decide +kernel
theorem dX11_image_1 : decode cX11_image 1 = .ok (.invokestatic 150, 3) := by decide +kernel
theorem dX11_image_4 : decode cX11_image 4 = .ok (.ifCond .ne 10, 3) := by decide +kernel
theorem dX11_image_7 : decode cX11_image 7 = .ok (.aload_n 0, 1) := by decide +kernel
theorem dX11_image_8 : decode cX11_image 8 = .ok (.bipush (-2), 2) := by decide +kernel
theorem dX11_image_10 : decode cX11_image 10 = .ok (.invokevirtual 61, 3) := by decide +kernel
theorem dX11_image_13 : decode cX11_image 13 = .ok (.ireturn, 1) := by decide +kernel
theorem dX11_image_14 : decode cX11_image 14 = .ok (.iload_n 1, 1) := by decide +kernel
theorem dX11_image_15 : decode cX11_image 15 = .ok (.ifCond .ne 22, 3) := by decide +kernel
theorem dX11_image_18 : decode cX11_image 18 = .ok (.aload_n 0, 1) := by decide +kernel
theorem dX11_image_19 : decode cX11_image 19 = .ok (.getfield 19, 3) := by decide +kernel
theorem dX11_image_22 : decode cX11_image 22 = .ok (.aload_n 0, 1) := by decide +kernel
theorem dX11_image_23 : decode cX11_image 23 = .ok (.getfield 10, 3) := by decide +kernel
theorem dX11_image_26 : decode cX11_image 26 = .ok (.invokevirtual 124, 3) := by decide +kernel
theorem dX11_image_29 : decode cX11_image 29 = .ok (.aload_n 0, 1) := by decide +kernel
theorem dX11_image_30 : decode cX11_image 30 = .ok (.iconst 1, 1) := by decide +kernel
theorem dX11_image_31 : decode cX11_image 31 = .ok (.putfield 236, 3) := by decide +kernel
theorem dX11_image_34 : decode cX11_image 34 = .ok (.goto 19, 3) := by decide +kernel
theorem dX11_image_37 : decode cX11_image 37 = .ok (.aload_n 0, 1) := by decide +kernel
theorem dX11_image_38 : decode cX11_image 38 = .ok (.getfield 22, 3) := by decide +kernel
theorem dX11_image_41 : decode cX11_image 41 = .ok (.aload_n 0, 1) := by decide +kernel
theorem dX11_image_42 : decode cX11_image 42 = .ok (.getfield 10, 3) := by decide +kernel
theorem dX11_image_45 : decode cX11_image 45 = .ok (.invokevirtual 124, 3) := by decide +kernel
theorem dX11_image_48 : decode cX11_image 48 = .ok (.aload_n 0, 1) := by decide +kernel
theorem dX11_image_49 : decode cX11_image 49 = .ok (.iconst 1, 1) := by decide +kernel
theorem dX11_image_50 : decode cX11_image 50 = .ok (.putfield 240, 3) := by decide +kernel
theorem dX11_image_53 : decode cX11_image 53 = .ok (.iconst 1, 1) := by decide +kernel
theorem dX11_image_54 : decode cX11_image 54 = .ok (.ireturn, 1) := by decide +kernel
theorem dX11_from_0 : decode cX11_from 0 = .ok (.iload_n 1, 1) := by decide +kernel
theorem dX11_from_1 : decode cX11_from 1 = .ok (.invokestatic 150, 3) := by decide +kernel
theorem dX11_from_4 : decode cX11_from 4 = .ok (.ifCond .ne 10, 3) := by decide +kernel
theorem dX11_from_7 : decode cX11_from 7 = .ok (.aload_n 0, 1) := by decide +kernel
theorem dX11_from_8 : decode cX11_from 8 = .ok (.bipush (-2), 2) := by decide +kernel
theorem dX11_from_10 : decode cX11_from 10 = .ok (.invokevirtual 61, 3) := by decide +kernel
theorem dX11_from_13 : decode cX11_from 13 = .ok (.ireturn, 1) := by decide +kernel
theorem dX11_from_14 : decode cX11_from 14 = .ok (.iload_n 1, 1) := by decide +kernel
theorem dX11_from_15 : decode cX11_from 15 = .ok (.ifCond .ne 10, 3) := by decide +kernel
theorem dX11_from_18 : decode cX11_from 18 = .ok (.aload_n 0, 1) := by decide +kernel
theorem dX11_from_19 : decode cX11_from 19 = .ok (.getfield 236, 3) := by decide +kernel
theorem dX11_from_22 : decode cX11_from 22 = .ok (.goto 7, 3) := by decide +kernel
theorem dX11_from_25 : decode cX11_from 25 = .ok (.aload_n 0, 1) := by decide +kernel
theorem dX11_from_26 : decode cX11_from 26 = .ok (.getfield 240, 3) := by decide +kernel
theorem dX11_from_29 : decode cX11_from 29 = .ok (.istore_n 2, 1) := by decide +kernel
theorem dX11_from_30 : decode cX11_from 30 = .ok (.iload_n 2, 1) := by decide +kernel
theorem dX11_from_31 : decode cX11_from 31 = .ok (.ifCond .ne 8, 3) := by decide +kernel
theorem dX11_from_34 : decode cX11_from 34 = .ok (.aload_n 0, 1) := by decide +kernel
theorem dX11_from_35 : decode cX11_from 35 = .ok (.invokevirtual 107, 3) := by decide +kernel
theorem dX11_from_38 : decode cX11_from 38 = .ok (.ireturn, 1) := by decide +kernel
theorem dX11_from_39 : decode cX11_from 39 = .ok (.aload_n 0, 1) := by decide +kernel
theorem dX11_from_40 : decode cX11_from 40 = .ok (.getfield 10, 3) := by decide +kernel
theorem dX11_from_43 : decode cX11_from 43 = .ok (.iload_n 1, 1) := by decide +kernel
theorem dX11_from_44 : decode cX11_from 44 = .ok (.ifCond .ne 10, 3) := by decide +kernel
theorem dX11_from_47 : decode cX11_from 47 = .ok (.aload_n 0, 1) := by decide +kernel
theorem dX11_from_48 : decode cX11_from 48 = .ok (.getfield 19, 3) := by decide +kernel
theorem dX11_from_51 : decode cX11_from 51 = .ok (.goto 7, 3) := by decide +kernel
theorem dX11_from_54 : decode cX11_from 54 = .ok (.aload_n 0, 1) := by decide +kernel
theorem dX11_from_55 : decode cX11_from 55 = .ok (.getfield 22, 3) := by decide +kernel
theorem dX11_from_58 : decode cX11_from 58 = .ok (.invokevirtual 124, 3) := by decide +kernel
theorem dX11_from_61 : decode cX11_from 61 = .ok (.iconst 1, 1) := by decide +kernel
theorem dX11_from_62 : decode cX11_from 62 = .ok (.ireturn, 1) := by decide +kernel
theorem dX11_status_0 : decode cX11_status 0 = .ok (.iload_n 1, 1) := by decide +kernel
theorem dX11_status_1 : decode cX11_status 1 = .ok (.tableswitch 42 0 2 #[27, 32, 37], 27) := by decide +kernel
theorem dX11_status_28 : decode cX11_status 28 = .ok (.aload_n 0, 1) := by decide +kernel
theorem dX11_status_29 : decode cX11_status 29 = .ok (.getfield 243, 3) := by decide +kernel
theorem dX11_status_32 : decode cX11_status 32 = .ok (.ireturn, 1) := by decide +kernel
theorem dX11_status_33 : decode cX11_status 33 = .ok (.aload_n 0, 1) := by decide +kernel
theorem dX11_status_34 : decode cX11_status 34 = .ok (.getfield 246, 3) := by decide +kernel
theorem dX11_status_37 : decode cX11_status 37 = .ok (.ireturn, 1) := by decide +kernel
theorem dX11_status_38 : decode cX11_status 38 = .ok (.aload_n 0, 1) := by decide +kernel
theorem dX11_status_39 : decode cX11_status 39 = .ok (.getfield 249, 3) := by decide +kernel
theorem dX11_status_42 : decode cX11_status 42 = .ok (.ireturn, 1) := by decide +kernel
theorem dX11_status_43 : decode cX11_status 43 = .ok (.aload_n 0, 1) := by decide +kernel
theorem dX11_status_44 : decode cX11_status 44 = .ok (.iconst (-1), 1) := by decide +kernel
theorem dX11_status_45 : decode cX11_status 45 = .ok (.invokevirtual 61, 3) := by decide +kernel
theorem dX11_status_48 : decode cX11_status 48 = .ok (.ireturn, 1) := by decide +kernel
theorem dX11_count_0 : decode cX11_count 0 = .ok (.iload_n 1, 1) := by decide +kernel
theorem dX11_count_1 : decode cX11_count 1 = .ok (.iconst 0, 1) := by decide +kernel
theorem dX11_count_2 : decode cX11_count 2 = .ok (.bipush 6, 2) := by decide +kernel
theorem dX11_count_4 : decode cX11_count 4 = .ok (.invokestatic 57, 3) := by decide +kernel
theorem dX11_count_7 : decode cX11_count 7 = .ok (.ifCond .ne 10, 3) := by decide +kernel
theorem dX11_count_10 : decode cX11_count 10 = .ok (.aload_n 0, 1) := by decide +kernel
theorem dX11_count_11 : decode cX11_count 11 = .ok (.bipush (-2), 2) := by decide +kernel
theorem dX11_count_13 : decode cX11_count 13 = .ok (.invokevirtual 61, 3) := by decide +kernel
theorem dX11_count_16 : decode cX11_count 16 = .ok (.ireturn, 1) := by decide +kernel
theorem dX11_count_17 : decode cX11_count 17 = .ok (.aload_n 0, 1) := by decide +kernel
theorem dX11_count_18 : decode cX11_count 18 = .ok (.iload_n 1, 1) := by decide +kernel
theorem dX11_count_19 : decode cX11_count 19 = .ok (.invokevirtual 252, 3) := by decide +kernel
theorem dX11_count_22 : decode cX11_count 22 = .ok (.ireturn, 1) := by decide +kernel
theorem dX11_digest_0 : decode cX11_digest 0 = .ok (.ldc2_w 255, 3) := by decide +kernel
theorem dX11_digest_3 : decode cX11_digest 3 = .ok (.lstore_n 1, 1) := by decide +kernel
theorem dX11_digest_4 : decode cX11_digest 4 = .ok (.iconst 0, 1) := by decide +kernel
theorem dX11_digest_5 : decode cX11_digest 5 = .ok (.istore_n 3, 1) := by decide +kernel
theorem dX11_digest_6 : decode cX11_digest 6 = .ok (.iload_n 3, 1) := by decide +kernel
theorem dX11_digest_7 : decode cX11_digest 7 = .ok (.bipush 6, 2) := by decide +kernel
theorem dX11_digest_9 : decode cX11_digest 9 = .ok (.if_icmp .gt 22, 3) := by decide +kernel
theorem dX11_digest_12 : decode cX11_digest 12 = .ok (.ldc2_w 257, 3) := by decide +kernel
theorem dX11_digest_15 : decode cX11_digest 15 = .ok (.lload_n 1, 1) := by decide +kernel
theorem dX11_digest_16 : decode cX11_digest 16 = .ok (.lmul, 1) := by decide +kernel
theorem dX11_digest_17 : decode cX11_digest 17 = .ok (.aload_n 0, 1) := by decide +kernel
theorem dX11_digest_18 : decode cX11_digest 18 = .ok (.iload_n 3, 1) := by decide +kernel
theorem dX11_digest_19 : decode cX11_digest 19 = .ok (.invokevirtual 252, 3) := by decide +kernel
theorem dX11_digest_22 : decode cX11_digest 22 = .ok (.i2l, 1) := by decide +kernel
theorem dX11_digest_23 : decode cX11_digest 23 = .ok (.ladd, 1) := by decide +kernel
theorem dX11_digest_24 : decode cX11_digest 24 = .ok (.lstore_n 1, 1) := by decide +kernel
theorem dX11_digest_25 : decode cX11_digest 25 = .ok (.iinc 3 1, 3) := by decide +kernel
theorem dX11_digest_28 : decode cX11_digest 28 = .ok (.goto (-22), 3) := by decide +kernel
theorem dX11_digest_31 : decode cX11_digest 31 = .ok (.aload_n 0, 1) := by decide +kernel
theorem dX11_digest_32 : decode cX11_digest 32 = .ok (.getfield 10, 3) := by decide +kernel
theorem dX11_digest_35 : decode cX11_digest 35 = .ok (.lload_n 1, 1) := by decide +kernel
theorem dX11_digest_36 : decode cX11_digest 36 = .ok (.invokevirtual 259, 3) := by decide +kernel
theorem dX11_digest_39 : decode cX11_digest 39 = .ok (.lstore_n 1, 1) := by decide +kernel
theorem dX11_digest_40 : decode cX11_digest 40 = .ok (.ldc2_w 257, 3) := by decide +kernel
theorem dX11_digest_43 : decode cX11_digest 43 = .ok (.lload_n 1, 1) := by decide +kernel
theorem dX11_digest_44 : decode cX11_digest 44 = .ok (.lmul, 1) := by decide +kernel
theorem dX11_digest_45 : decode cX11_digest 45 = .ok (.aload_n 0, 1) := by decide +kernel
theorem dX11_digest_46 : decode cX11_digest 46 = .ok (.getfield 233, 3) := by decide +kernel
theorem dX11_digest_49 : decode cX11_digest 49 = .ok (.i2l, 1) := by decide +kernel
theorem dX11_digest_50 : decode cX11_digest 50 = .ok (.ladd, 1) := by decide +kernel
theorem dX11_digest_51 : decode cX11_digest 51 = .ok (.lstore_n 1, 1) := by decide +kernel
theorem dX11_digest_52 : decode cX11_digest 52 = .ok (.ldc2_w 257, 3) := by decide +kernel
theorem dX11_digest_55 : decode cX11_digest 55 = .ok (.lload_n 1, 1) := by decide +kernel
theorem dX11_digest_56 : decode cX11_digest 56 = .ok (.lmul, 1) := by decide +kernel
theorem dX11_digest_57 : decode cX11_digest 57 = .ok (.aload_n 0, 1) := by decide +kernel
theorem dX11_digest_58 : decode cX11_digest 58 = .ok (.getfield 53, 3) := by decide +kernel
theorem dX11_digest_61 : decode cX11_digest 61 = .ok (.i2l, 1) := by decide +kernel
theorem dX11_digest_62 : decode cX11_digest 62 = .ok (.ladd, 1) := by decide +kernel
theorem dX11_digest_63 : decode cX11_digest 63 = .ok (.lreturn, 1) := by decide +kernel
theorem dX11_countOf_0 : decode cX11_countOf 0 = .ok (.iload_n 1, 1) := by decide +kernel
theorem dX11_countOf_1 : decode cX11_countOf 1 = .ok (.tableswitch 87 0 5 #[39, 47, 55, 63, 71, 79], 39) := by decide +kernel
theorem dX11_countOf_40 : decode cX11_countOf 40 = .ok (.aload_n 0, 1) := by decide +kernel
theorem dX11_countOf_41 : decode cX11_countOf 41 = .ok (.getfield 10, 3) := by decide +kernel
theorem dX11_countOf_44 : decode cX11_countOf 44 = .ok (.getfield 65, 3) := by decide +kernel
theorem dX11_countOf_47 : decode cX11_countOf 47 = .ok (.ireturn, 1) := by decide +kernel
theorem dX11_countOf_48 : decode cX11_countOf 48 = .ok (.aload_n 0, 1) := by decide +kernel
theorem dX11_countOf_49 : decode cX11_countOf 49 = .ok (.getfield 10, 3) := by decide +kernel
theorem dX11_countOf_52 : decode cX11_countOf 52 = .ok (.getfield 75, 3) := by decide +kernel
theorem dX11_countOf_55 : decode cX11_countOf 55 = .ok (.ireturn, 1) := by decide +kernel
theorem dX11_countOf_56 : decode cX11_countOf 56 = .ok (.aload_n 0, 1) := by decide +kernel
theorem dX11_countOf_57 : decode cX11_countOf 57 = .ok (.getfield 10, 3) := by decide +kernel
theorem dX11_countOf_60 : decode cX11_countOf 60 = .ok (.getfield 72, 3) := by decide +kernel
theorem dX11_countOf_63 : decode cX11_countOf 63 = .ok (.ireturn, 1) := by decide +kernel
theorem dX11_countOf_64 : decode cX11_countOf 64 = .ok (.aload_n 0, 1) := by decide +kernel
theorem dX11_countOf_65 : decode cX11_countOf 65 = .ok (.getfield 10, 3) := by decide +kernel
theorem dX11_countOf_68 : decode cX11_countOf 68 = .ok (.getfield 179, 3) := by decide +kernel
theorem dX11_countOf_71 : decode cX11_countOf 71 = .ok (.ireturn, 1) := by decide +kernel
theorem dX11_countOf_72 : decode cX11_countOf 72 = .ok (.aload_n 0, 1) := by decide +kernel
theorem dX11_countOf_73 : decode cX11_countOf 73 = .ok (.getfield 10, 3) := by decide +kernel
theorem dX11_countOf_76 : decode cX11_countOf 76 = .ok (.getfield 197, 3) := by decide +kernel
theorem dX11_countOf_79 : decode cX11_countOf 79 = .ok (.ireturn, 1) := by decide +kernel
theorem dX11_countOf_80 : decode cX11_countOf 80 = .ok (.aload_n 0, 1) := by decide +kernel
theorem dX11_countOf_81 : decode cX11_countOf 81 = .ok (.getfield 10, 3) := by decide +kernel
theorem dX11_countOf_84 : decode cX11_countOf 84 = .ok (.getfield 104, 3) := by decide +kernel
theorem dX11_countOf_87 : decode cX11_countOf 87 = .ok (.ireturn, 1) := by decide +kernel
theorem dX11_countOf_88 : decode cX11_countOf 88 = .ok (.aload_n 0, 1) := by decide +kernel
theorem dX11_countOf_89 : decode cX11_countOf 89 = .ok (.getfield 28, 3) := by decide +kernel
theorem dX11_countOf_92 : decode cX11_countOf 92 = .ok (.getfield 113, 3) := by decide +kernel
theorem dX11_countOf_95 : decode cX11_countOf 95 = .ok (.ireturn, 1) := by decide +kernel
theorem dX11_keepFraction_0 : decode cX11_keepFraction 0 = .ok (.aload_n 0, 1) := by decide +kernel
theorem dX11_keepFraction_1 : decode cX11_keepFraction 1 = .ok (.iload_n 1, 1) := by decide +kernel
theorem dX11_keepFraction_2 : decode cX11_keepFraction 2 = .ok (.putfield 233, 3) := by decide +kernel
theorem dX11_keepFraction_5 : decode cX11_keepFraction 5 = .ok (.aload_n 0, 1) := by decide +kernel
theorem dX11_keepFraction_6 : decode cX11_keepFraction 6 = .ok (.iload_n 2, 1) := by decide +kernel
theorem dX11_keepFraction_7 : decode cX11_keepFraction 7 = .ok (.putfield 53, 3) := by decide +kernel
theorem dX11_keepFraction_10 : decode cX11_keepFraction 10 = .ok (.iload_n 2, 1) := by decide +kernel
theorem dX11_keepFraction_11 : decode cX11_keepFraction 11 = .ok (.istore_n 3, 1) := by decide +kernel
theorem dX11_keepFraction_12 : decode cX11_keepFraction 12 = .ok (.iload_n 3, 1) := by decide +kernel
theorem dX11_keepFraction_13 : decode cX11_keepFraction 13 = .ok (.iconst 1, 1) := by decide +kernel
theorem dX11_keepFraction_14 : decode cX11_keepFraction 14 = .ok (.if_icmp .le 36, 3) := by decide +kernel
theorem dX11_keepFraction_17 : decode cX11_keepFraction 17 = .ok (.iload_n 1, 1) := by decide +kernel
theorem dX11_keepFraction_18 : decode cX11_keepFraction 18 = .ok (.iload_n 3, 1) := by decide +kernel
theorem dX11_keepFraction_19 : decode cX11_keepFraction 19 = .ok (.irem, 1) := by decide +kernel
theorem dX11_keepFraction_20 : decode cX11_keepFraction 20 = .ok (.ifCond .ne 24, 3) := by decide +kernel
theorem dX11_keepFraction_23 : decode cX11_keepFraction 23 = .ok (.iload_n 2, 1) := by decide +kernel
theorem dX11_keepFraction_24 : decode cX11_keepFraction 24 = .ok (.iload_n 3, 1) := by decide +kernel
theorem dX11_keepFraction_25 : decode cX11_keepFraction 25 = .ok (.irem, 1) := by decide +kernel
theorem dX11_keepFraction_26 : decode cX11_keepFraction 26 = .ok (.ifCond .ne 18, 3) := by decide +kernel
theorem dX11_keepFraction_29 : decode cX11_keepFraction 29 = .ok (.aload_n 0, 1) := by decide +kernel
theorem dX11_keepFraction_30 : decode cX11_keepFraction 30 = .ok (.iload_n 1, 1) := by decide +kernel
theorem dX11_keepFraction_31 : decode cX11_keepFraction 31 = .ok (.iload_n 3, 1) := by decide +kernel
theorem dX11_keepFraction_32 : decode cX11_keepFraction 32 = .ok (.idiv, 1) := by decide +kernel
theorem dX11_keepFraction_33 : decode cX11_keepFraction 33 = .ok (.putfield 233, 3) := by decide +kernel
theorem dX11_keepFraction_36 : decode cX11_keepFraction 36 = .ok (.aload_n 0, 1) := by decide +kernel
theorem dX11_keepFraction_37 : decode cX11_keepFraction 37 = .ok (.iload_n 2, 1) := by decide +kernel
theorem dX11_keepFraction_38 : decode cX11_keepFraction 38 = .ok (.iload_n 3, 1) := by decide +kernel
theorem dX11_keepFraction_39 : decode cX11_keepFraction 39 = .ok (.idiv, 1) := by decide +kernel
theorem dX11_keepFraction_40 : decode cX11_keepFraction 40 = .ok (.putfield 53, 3) := by decide +kernel
theorem dX11_keepFraction_43 : decode cX11_keepFraction 43 = .ok (.return_, 1) := by decide +kernel
theorem dX11_keepFraction_44 : decode cX11_keepFraction 44 = .ok (.iinc 3 (-1), 3) := by decide +kernel
theorem dX11_keepFraction_47 : decode cX11_keepFraction 47 = .ok (.goto (-35), 3) := by decide +kernel
theorem dX11_keepFraction_50 : decode cX11_keepFraction 50 = .ok (.return_, 1) := by decide +kernel
theorem dX11_refuseBad_0 : decode cX11_refuseBad 0 = .ok (.aload_n 0, 1) := by decide +kernel
theorem dX11_refuseBad_1 : decode cX11_refuseBad 1 = .ok (.dup, 1) := by decide +kernel
theorem dX11_refuseBad_2 : decode cX11_refuseBad 2 = .ok (.getfield 243, 3) := by decide +kernel
theorem dX11_refuseBad_5 : decode cX11_refuseBad 5 = .ok (.iconst 1, 1) := by decide +kernel
theorem dX11_refuseBad_6 : decode cX11_refuseBad 6 = .ok (.iadd, 1) := by decide +kernel
theorem dX11_refuseBad_7 : decode cX11_refuseBad 7 = .ok (.putfield 243, 3) := by decide +kernel
theorem dX11_refuseBad_10 : decode cX11_refuseBad 10 = .ok (.iload_n 1, 1) := by decide +kernel
theorem dX11_refuseBad_11 : decode cX11_refuseBad 11 = .ok (.ireturn, 1) := by decide +kernel
theorem dX11_refuseNo_0 : decode cX11_refuseNo 0 = .ok (.aload_n 0, 1) := by decide +kernel
theorem dX11_refuseNo_1 : decode cX11_refuseNo 1 = .ok (.dup, 1) := by decide +kernel
theorem dX11_refuseNo_2 : decode cX11_refuseNo 2 = .ok (.getfield 246, 3) := by decide +kernel
theorem dX11_refuseNo_5 : decode cX11_refuseNo 5 = .ok (.iconst 1, 1) := by decide +kernel
theorem dX11_refuseNo_6 : decode cX11_refuseNo 6 = .ok (.iadd, 1) := by decide +kernel
theorem dX11_refuseNo_7 : decode cX11_refuseNo 7 = .ok (.putfield 246, 3) := by decide +kernel
theorem dX11_refuseNo_10 : decode cX11_refuseNo 10 = .ok (.bipush (-3), 2) := by decide +kernel
theorem dX11_refuseNo_12 : decode cX11_refuseNo 12 = .ok (.ireturn, 1) := by decide +kernel
theorem dX11_refuseFull_0 : decode cX11_refuseFull 0 = .ok (.aload_n 0, 1) := by decide +kernel
theorem dX11_refuseFull_1 : decode cX11_refuseFull 1 = .ok (.dup, 1) := by decide +kernel
theorem dX11_refuseFull_2 : decode cX11_refuseFull 2 = .ok (.getfield 249, 3) := by decide +kernel
theorem dX11_refuseFull_5 : decode cX11_refuseFull 5 = .ok (.iconst 1, 1) := by decide +kernel
theorem dX11_refuseFull_6 : decode cX11_refuseFull 6 = .ok (.iadd, 1) := by decide +kernel
theorem dX11_refuseFull_7 : decode cX11_refuseFull 7 = .ok (.putfield 249, 3) := by decide +kernel
theorem dX11_refuseFull_10 : decode cX11_refuseFull 10 = .ok (.bipush (-4), 2) := by decide +kernel
theorem dX11_refuseFull_12 : decode cX11_refuseFull 12 = .ok (.ireturn, 1) := by decide +kernel
theorem dX11_isChild_0 : decode cX11_isChild 0 = .ok (.iload_n 1, 1) := by decide +kernel
theorem dX11_isChild_1 : decode cX11_isChild 1 = .ok (.iconst 0, 1) := by decide +kernel
theorem dX11_isChild_2 : decode cX11_isChild 2 = .ok (.aload_n 0, 1) := by decide +kernel
theorem dX11_isChild_3 : decode cX11_isChild 3 = .ok (.getfield 10, 3) := by decide +kernel
theorem dX11_isChild_6 : decode cX11_isChild 6 = .ok (.getfield 65, 3) := by decide +kernel
theorem dX11_isChild_9 : decode cX11_isChild 9 = .ok (.iconst 1, 1) := by decide +kernel
theorem dX11_isChild_10 : decode cX11_isChild 10 = .ok (.isub, 1) := by decide +kernel
theorem dX11_isChild_11 : decode cX11_isChild 11 = .ok (.invokestatic 57, 3) := by decide +kernel
theorem dX11_isChild_14 : decode cX11_isChild 14 = .ok (.ireturn, 1) := by decide +kernel
theorem dX11_isCell_0 : decode cX11_isCell 0 = .ok (.iload_n 0, 1) := by decide +kernel
theorem dX11_isCell_1 : decode cX11_isCell 1 = .ok (.iconst 0, 1) := by decide +kernel
theorem dX11_isCell_2 : decode cX11_isCell 2 = .ok (.bipush 47, 2) := by decide +kernel
theorem dX11_isCell_4 : decode cX11_isCell 4 = .ok (.invokestatic 57, 3) := by decide +kernel
theorem dX11_isCell_7 : decode cX11_isCell 7 = .ok (.ireturn, 1) := by decide +kernel
theorem dX11_isMinute_0 : decode cX11_isMinute 0 = .ok (.iload_n 0, 1) := by decide +kernel
theorem dX11_isMinute_1 : decode cX11_isMinute 1 = .ok (.iconst 0, 1) := by decide +kernel
theorem dX11_isMinute_2 : decode cX11_isMinute 2 = .ok (.bipush 59, 2) := by decide +kernel
theorem dX11_isMinute_4 : decode cX11_isMinute 4 = .ok (.invokestatic 57, 3) := by decide +kernel
theorem dX11_isMinute_7 : decode cX11_isMinute 7 = .ok (.ireturn, 1) := by decide +kernel
theorem dX11_isZeroOrOne_0 : decode cX11_isZeroOrOne 0 = .ok (.iload_n 0, 1) := by decide +kernel
theorem dX11_isZeroOrOne_1 : decode cX11_isZeroOrOne 1 = .ok (.iconst 0, 1) := by decide +kernel
theorem dX11_isZeroOrOne_2 : decode cX11_isZeroOrOne 2 = .ok (.iconst 1, 1) := by decide +kernel
theorem dX11_isZeroOrOne_3 : decode cX11_isZeroOrOne 3 = .ok (.invokestatic 57, 3) := by decide +kernel
theorem dX11_isZeroOrOne_6 : decode cX11_isZeroOrOne 6 = .ok (.ireturn, 1) := by decide +kernel
theorem dX11_within_0 : decode cX11_within 0 = .ok (.iload_n 0, 1) := by decide +kernel
theorem dX11_within_1 : decode cX11_within 1 = .ok (.iload_n 1, 1) := by decide +kernel
theorem dX11_within_2 : decode cX11_within 2 = .ok (.if_icmp .lt 12, 3) := by decide +kernel
theorem dX11_within_5 : decode cX11_within 5 = .ok (.iload_n 0, 1) := by decide +kernel
theorem dX11_within_6 : decode cX11_within 6 = .ok (.iload_n 2, 1) := by decide +kernel
theorem dX11_within_7 : decode cX11_within 7 = .ok (.if_icmp .gt 7, 3) := by decide +kernel
theorem dX11_within_10 : decode cX11_within 10 = .ok (.iconst 1, 1) := by decide +kernel
theorem dX11_within_11 : decode cX11_within 11 = .ok (.goto 4, 3) := by decide +kernel
theorem dX11_within_14 : decode cX11_within 14 = .ok (.iconst 0, 1) := by decide +kernel
theorem dX11_within_15 : decode cX11_within 15 = .ok (.ireturn, 1) := by decide +kernel
theorem dX11_noneIfNever_0 : decode cX11_noneIfNever 0 = .ok (.iload_n 0, 1) := by decide +kernel
theorem dX11_noneIfNever_1 : decode cX11_noneIfNever 1 = .ok (.bipush 61, 2) := by decide +kernel
theorem dX11_noneIfNever_3 : decode cX11_noneIfNever 3 = .ok (.if_icmp .ne 7, 3) := by decide +kernel
theorem dX11_noneIfNever_6 : decode cX11_noneIfNever 6 = .ok (.iconst (-1), 1) := by decide +kernel
theorem dX11_noneIfNever_7 : decode cX11_noneIfNever 7 = .ok (.goto 4, 3) := by decide +kernel
theorem dX11_noneIfNever_10 : decode cX11_noneIfNever 10 = .ok (.iload_n 0, 1) := by decide +kernel
theorem dX11_noneIfNever_11 : decode cX11_noneIfNever 11 = .ok (.ireturn, 1) := by decide +kernel
theorem dX12_init_0 : decode cX12_init 0 = .ok (.aload_n 0, 1) := by decide +kernel
theorem dX12_init_1 : decode cX12_init 1 = .ok (.invokespecial 1, 3) := by decide +kernel
theorem dX12_init_4 : decode cX12_init 4 = .ok (.aload_n 0, 1) := by decide +kernel
theorem dX12_init_5 : decode cX12_init 5 = .ok (.sipush 170, 3) := by decide +kernel
theorem dX12_init_8 : decode cX12_init 8 = .ok (.newarray .int, 2) := by decide +kernel
theorem dX12_init_10 : decode cX12_init 10 = .ok (.putfield 7, 3) := by decide +kernel
theorem dX12_init_13 : decode cX12_init 13 = .ok (.aload_n 0, 1) := by decide +kernel
end
section
theorem dX12_init_14 : decode cX12_init 14 = .ok (.sipush 340, 3) := by decide +kernel
theorem dX12_init_17 : decode cX12_init 17 = .ok (.newarray .int, 2) := by decide +kernel
theorem dX12_init_19 : decode cX12_init 19 = .ok (.putfield 13, 3) := by decide +kernel
theorem dX12_init_22 : decode cX12_init 22 = .ok (.aload_n 0, 1) := by decide +kernel
theorem dX12_init_23 : decode cX12_init 23 = .ok (.iconst 2, 1) := by decide +kernel
theorem dX12_init_24 : decode cX12_init 24 = .ok (.newarray .boolean, 2) := by decide +kernel
theorem dX12_init_26 : decode cX12_init 26 = .ok (.putfield 16, 3) := by decide +kernel
theorem dX12_init_29 : decode cX12_init 29 = .ok (.aload_n 0, 1) := by decide +kernel
theorem dX12_init_30 : decode cX12_init 30 = .ok (.iconst 3, 1) := by decide +kernel
theorem dX12_init_31 : decode cX12_init 31 = .ok (.newarray .int, 2) := by decide +kernel
theorem dX12_init_33 : decode cX12_init 33 = .ok (.putfield 20, 3) := by decide +kernel
theorem dX12_init_36 : decode cX12_init 36 = .ok (.aload_n 0, 1) := by decide +kernel
theorem dX12_init_37 : decode cX12_init 37 = .ok (.lconst 1, 1) := by decide +kernel
theorem dX12_init_38 : decode cX12_init 38 = .ok (.putfield 23, 3) := by decide +kernel
theorem dX12_init_41 : decode cX12_init 41 = .ok (.aload_n 0, 1) := by decide +kernel
theorem dX12_init_42 : decode cX12_init 42 = .ok (.bipush 6, 2) := by decide +kernel
theorem dX12_init_44 : decode cX12_init 44 = .ok (.newarray .int, 2) := by decide +kernel
theorem dX12_init_46 : decode cX12_init 46 = .ok (.putfield 27, 3) := by decide +kernel
theorem dX12_init_49 : decode cX12_init 49 = .ok (.aload_n 0, 1) := by decide +kernel
theorem dX12_init_50 : decode cX12_init 50 = .ok (.bipush 6, 2) := by decide +kernel
theorem dX12_init_52 : decode cX12_init 52 = .ok (.newarray .int, 2) := by decide +kernel
theorem dX12_init_54 : decode cX12_init 54 = .ok (.putfield 30, 3) := by decide +kernel
theorem dX12_init_57 : decode cX12_init 57 = .ok (.aload_n 0, 1) := by decide +kernel
theorem dX12_init_58 : decode cX12_init 58 = .ok (.bipush 48, 2) := by decide +kernel
theorem dX12_init_60 : decode cX12_init 60 = .ok (.newarray .boolean, 2) := by decide +kernel
theorem dX12_init_62 : decode cX12_init 62 = .ok (.putfield 33, 3) := by decide +kernel
theorem dX12_init_65 : decode cX12_init 65 = .ok (.aload_n 0, 1) := by decide +kernel
theorem dX12_init_66 : decode cX12_init 66 = .ok (.bipush 48, 2) := by decide +kernel
theorem dX12_init_68 : decode cX12_init 68 = .ok (.newarray .boolean, 2) := by decide +kernel
theorem dX12_init_70 : decode cX12_init 70 = .ok (.putfield 36, 3) := by decide +kernel
theorem dX12_init_73 : decode cX12_init 73 = .ok (.aload_n 0, 1) := by decide +kernel
theorem dX12_init_74 : decode cX12_init 74 = .ok (.bipush 36, 2) := by decide +kernel
theorem dX12_init_76 : decode cX12_init 76 = .ok (.newarray .int, 2) := by decide +kernel
theorem dX12_init_78 : decode cX12_init 78 = .ok (.putfield 39, 3) := by decide +kernel
theorem dX12_init_81 : decode cX12_init 81 = .ok (.aload_n 0, 1) := by decide +kernel
theorem dX12_init_82 : decode cX12_init 82 = .ok (.bipush 64, 2) := by decide +kernel
theorem dX12_init_84 : decode cX12_init 84 = .ok (.newarray .boolean, 2) := by decide +kernel
theorem dX12_init_86 : decode cX12_init 86 = .ok (.putfield 42, 3) := by decide +kernel
theorem dX12_init_89 : decode cX12_init 89 = .ok (.aload_n 0, 1) := by decide +kernel
theorem dX12_init_90 : decode cX12_init 90 = .ok (.bipush 10, 2) := by decide +kernel
theorem dX12_init_92 : decode cX12_init 92 = .ok (.newarray .int, 2) := by decide +kernel
theorem dX12_init_94 : decode cX12_init 94 = .ok (.putfield 45, 3) := by decide +kernel
theorem dX12_init_97 : decode cX12_init 97 = .ok (.aload_n 0, 1) := by decide +kernel
theorem dX12_init_98 : decode cX12_init 98 = .ok (.sipush 150, 3) := by decide +kernel
theorem dX12_init_101 : decode cX12_init 101 = .ok (.newarray .int, 2) := by decide +kernel
theorem dX12_init_103 : decode cX12_init 103 = .ok (.putfield 48, 3) := by decide +kernel
theorem dX12_init_106 : decode cX12_init 106 = .ok (.aload_n 0, 1) := by decide +kernel
theorem dX12_init_107 : decode cX12_init 107 = .ok (.bipush 74, 2) := by decide +kernel
theorem dX12_init_109 : decode cX12_init 109 = .ok (.newarray .int, 2) := by decide +kernel
theorem dX12_init_111 : decode cX12_init 111 = .ok (.putfield 51, 3) := by decide +kernel
theorem dX12_init_114 : decode cX12_init 114 = .ok (.aload_n 0, 1) := by decide +kernel
theorem dX12_init_115 : decode cX12_init 115 = .ok (.iconst 5, 1) := by decide +kernel
theorem dX12_init_116 : decode cX12_init 116 = .ok (.newarray .int, 2) := by decide +kernel
theorem dX12_init_118 : decode cX12_init 118 = .ok (.putfield 54, 3) := by decide +kernel
theorem dX12_init_121 : decode cX12_init 121 = .ok (.aload_n 0, 1) := by decide +kernel
theorem dX12_init_122 : decode cX12_init 122 = .ok (.getfield 7, 3) := by decide +kernel
theorem dX12_init_125 : decode cX12_init 125 = .ok (.bipush 10, 2) := by decide +kernel
theorem dX12_init_127 : decode cX12_init 127 = .ok (.iconst 0, 1) := by decide +kernel
theorem dX12_init_128 : decode cX12_init 128 = .ok (.invokestatic 57, 3) := by decide +kernel
theorem dX12_init_131 : decode cX12_init 131 = .ok (.return_, 1) := by decide +kernel
theorem dX12_in_0 : decode cX12_in 0 = .ok (.lload_n 0, 1) := by decide +kernel
theorem dX12_in_1 : decode cX12_in 1 = .ok (.lload_n 2, 1) := by decide +kernel
theorem dX12_in_2 : decode cX12_in 2 = .ok (.lcmp, 1) := by decide +kernel
theorem dX12_in_3 : decode cX12_in 3 = .ok (.ifCond .lt 14, 3) := by decide +kernel
theorem dX12_in_6 : decode cX12_in 6 = .ok (.lload_n 0, 1) := by decide +kernel
theorem dX12_in_7 : decode cX12_in 7 = .ok (.lload 4, 2) := by decide +kernel
theorem dX12_in_9 : decode cX12_in 9 = .ok (.lcmp, 1) := by decide +kernel
theorem dX12_in_10 : decode cX12_in 10 = .ok (.ifCond .gt 7, 3) := by decide +kernel
theorem dX12_in_13 : decode cX12_in 13 = .ok (.iconst 1, 1) := by decide +kernel
theorem dX12_in_14 : decode cX12_in 14 = .ok (.goto 4, 3) := by decide +kernel
theorem dX12_in_17 : decode cX12_in 17 = .ok (.iconst 0, 1) := by decide +kernel
theorem dX12_in_18 : decode cX12_in 18 = .ok (.ireturn, 1) := by decide +kernel
theorem dX12_bad_0 : decode cX12_bad 0 = .ok (.aload_n 0, 1) := by decide +kernel
theorem dX12_bad_1 : decode cX12_bad 1 = .ok (.getfield 20, 3) := by decide +kernel
theorem dX12_bad_4 : decode cX12_bad 4 = .ok (.iconst 0, 1) := by decide +kernel
theorem dX12_bad_5 : decode cX12_bad 5 = .ok (.dup2, 1) := by decide +kernel
theorem dX12_bad_6 : decode cX12_bad 6 = .ok (.iaload, 1) := by decide +kernel
theorem dX12_bad_7 : decode cX12_bad 7 = .ok (.iconst 1, 1) := by decide +kernel
theorem dX12_bad_8 : decode cX12_bad 8 = .ok (.iadd, 1) := by decide +kernel
theorem dX12_bad_9 : decode cX12_bad 9 = .ok (.iastore, 1) := by decide +kernel
theorem dX12_bad_10 : decode cX12_bad 10 = .ok (.iload_n 1, 1) := by decide +kernel
theorem dX12_bad_11 : decode cX12_bad 11 = .ok (.ireturn, 1) := by decide +kernel
theorem dX12_no_0 : decode cX12_no 0 = .ok (.aload_n 0, 1) := by decide +kernel
theorem dX12_no_1 : decode cX12_no 1 = .ok (.getfield 20, 3) := by decide +kernel
theorem dX12_no_4 : decode cX12_no 4 = .ok (.iconst 1, 1) := by decide +kernel
theorem dX12_no_5 : decode cX12_no 5 = .ok (.dup2, 1) := by decide +kernel
theorem dX12_no_6 : decode cX12_no 6 = .ok (.iaload, 1) := by decide +kernel
theorem dX12_no_7 : decode cX12_no 7 = .ok (.iconst 1, 1) := by decide +kernel
theorem dX12_no_8 : decode cX12_no 8 = .ok (.iadd, 1) := by decide +kernel
theorem dX12_no_9 : decode cX12_no 9 = .ok (.iastore, 1) := by decide +kernel
theorem dX12_no_10 : decode cX12_no 10 = .ok (.bipush (-3), 2) := by decide +kernel
theorem dX12_no_12 : decode cX12_no 12 = .ok (.ireturn, 1) := by decide +kernel
theorem dX12_full_0 : decode cX12_full 0 = .ok (.aload_n 0, 1) := by decide +kernel
theorem dX12_full_1 : decode cX12_full 1 = .ok (.getfield 20, 3) := by decide +kernel
theorem dX12_full_4 : decode cX12_full 4 = .ok (.iconst 2, 1) := by decide +kernel
theorem dX12_full_5 : decode cX12_full 5 = .ok (.dup2, 1) := by decide +kernel
theorem dX12_full_6 : decode cX12_full 6 = .ok (.iaload, 1) := by decide +kernel
theorem dX12_full_7 : decode cX12_full 7 = .ok (.iconst 1, 1) := by decide +kernel
theorem dX12_full_8 : decode cX12_full 8 = .ok (.iadd, 1) := by decide +kernel
theorem dX12_full_9 : decode cX12_full 9 = .ok (.iastore, 1) := by decide +kernel
theorem dX12_full_10 : decode cX12_full 10 = .ok (.bipush (-4), 2) := by decide +kernel
theorem dX12_full_12 : decode cX12_full 12 = .ok (.ireturn, 1) := by decide +kernel
theorem dX12_bits_0 : decode cX12_bits 0 = .ok (.iconst 0, 1) := by decide +kernel
theorem dX12_bits_1 : decode cX12_bits 1 = .ok (.istore_n 1, 1) := by decide +kernel
theorem dX12_bits_2 : decode cX12_bits 2 = .ok (.iload_n 0, 1) := by decide +kernel
theorem dX12_bits_3 : decode cX12_bits 3 = .ok (.istore_n 2, 1) := by decide +kernel
theorem dX12_bits_4 : decode cX12_bits 4 = .ok (.iload_n 2, 1) := by decide +kernel
theorem dX12_bits_5 : decode cX12_bits 5 = .ok (.ifCond .le 16, 3) := by decide +kernel
theorem dX12_bits_8 : decode cX12_bits 8 = .ok (.iload_n 1, 1) := by decide +kernel
theorem dX12_bits_9 : decode cX12_bits 9 = .ok (.iload_n 2, 1) := by decide +kernel
theorem dX12_bits_10 : decode cX12_bits 10 = .ok (.iconst 1, 1) := by decide +kernel
theorem dX12_bits_11 : decode cX12_bits 11 = .ok (.iand, 1) := by decide +kernel
theorem dX12_bits_12 : decode cX12_bits 12 = .ok (.iadd, 1) := by decide +kernel
theorem dX12_bits_13 : decode cX12_bits 13 = .ok (.istore_n 1, 1) := by decide +kernel
theorem dX12_bits_14 : decode cX12_bits 14 = .ok (.iload_n 2, 1) := by decide +kernel
theorem dX12_bits_15 : decode cX12_bits 15 = .ok (.iconst 1, 1) := by decide +kernel
theorem dX12_bits_16 : decode cX12_bits 16 = .ok (.ishr, 1) := by decide +kernel
theorem dX12_bits_17 : decode cX12_bits 17 = .ok (.istore_n 2, 1) := by decide +kernel
theorem dX12_bits_18 : decode cX12_bits 18 = .ok (.goto (-14), 3) := by decide +kernel
theorem dX12_bits_21 : decode cX12_bits 21 = .ok (.iload_n 1, 1) := by decide +kernel
theorem dX12_bits_22 : decode cX12_bits 22 = .ok (.ireturn, 1) := by decide +kernel
theorem dX12_begin_0 : decode cX12_begin 0 = .ok (.iconst 0, 1) := by decide +kernel
theorem dX12_begin_1 : decode cX12_begin 1 = .ok (.istore_n 3, 1) := by decide +kernel
theorem dX12_begin_2 : decode cX12_begin 2 = .ok (.iload_n 3, 1) := by decide +kernel
theorem dX12_begin_3 : decode cX12_begin 3 = .ok (.bipush 74, 2) := by decide +kernel
theorem dX12_begin_5 : decode cX12_begin 5 = .ok (.if_icmp .ge 13, 3) := by decide +kernel
theorem dX12_begin_8 : decode cX12_begin 8 = .ok (.aload_n 0, 1) := by decide +kernel
theorem dX12_begin_9 : decode cX12_begin 9 = .ok (.iload_n 3, 1) := by decide +kernel
theorem dX12_begin_10 : decode cX12_begin 10 = .ok (.iconst 0, 1) := by decide +kernel
theorem dX12_begin_11 : decode cX12_begin 11 = .ok (.iastore, 1) := by decide +kernel
theorem dX12_begin_12 : decode cX12_begin 12 = .ok (.iinc 3 1, 3) := by decide +kernel
theorem dX12_begin_15 : decode cX12_begin 15 = .ok (.goto (-13), 3) := by decide +kernel
theorem dX12_begin_18 : decode cX12_begin 18 = .ok (.aload_n 0, 1) := by decide +kernel
theorem dX12_begin_19 : decode cX12_begin 19 = .ok (.iconst 1, 1) := by decide +kernel
theorem dX12_begin_20 : decode cX12_begin 20 = .ok (.iload_n 1, 1) := by decide +kernel
theorem dX12_begin_21 : decode cX12_begin 21 = .ok (.iastore, 1) := by decide +kernel
theorem dX12_begin_22 : decode cX12_begin 22 = .ok (.aload_n 0, 1) := by decide +kernel
theorem dX12_begin_23 : decode cX12_begin 23 = .ok (.iconst 2, 1) := by decide +kernel
theorem dX12_begin_24 : decode cX12_begin 24 = .ok (.iload_n 2, 1) := by decide +kernel
theorem dX12_begin_25 : decode cX12_begin 25 = .ok (.iastore, 1) := by decide +kernel
theorem dX12_begin_26 : decode cX12_begin 26 = .ok (.return_, 1) := by decide +kernel
theorem dX12_children_0 : decode cX12_children 0 = .ok (.aload_n 0, 1) := by decide +kernel
theorem dX12_children_1 : decode cX12_children 1 = .ok (.getfield 7, 3) := by decide +kernel
theorem dX12_children_4 : decode cX12_children 4 = .ok (.iconst 0, 1) := by decide +kernel
theorem dX12_children_5 : decode cX12_children 5 = .ok (.iaload, 1) := by decide +kernel
theorem dX12_children_6 : decode cX12_children 6 = .ok (.ireturn, 1) := by decide +kernel
theorem dX12_isChild_0 : decode cX12_isChild 0 = .ok (.iload_n 1, 1) := by decide +kernel
theorem dX12_isChild_1 : decode cX12_isChild 1 = .ok (.i2l, 1) := by decide +kernel
theorem dX12_isChild_2 : decode cX12_isChild 2 = .ok (.lconst 0, 1) := by decide +kernel
theorem dX12_isChild_3 : decode cX12_isChild 3 = .ok (.aload_n 0, 1) := by decide +kernel
theorem dX12_isChild_4 : decode cX12_isChild 4 = .ok (.invokevirtual 61, 3) := by decide +kernel
theorem dX12_isChild_7 : decode cX12_isChild 7 = .ok (.iconst 1, 1) := by decide +kernel
theorem dX12_isChild_8 : decode cX12_isChild 8 = .ok (.isub, 1) := by decide +kernel
theorem dX12_isChild_9 : decode cX12_isChild 9 = .ok (.i2l, 1) := by decide +kernel
theorem dX12_isChild_10 : decode cX12_isChild 10 = .ok (.invokestatic 65, 3) := by decide +kernel
theorem dX12_isChild_13 : decode cX12_isChild 13 = .ok (.ireturn, 1) := by decide +kernel
theorem dX12_isCell_0 : decode cX12_isCell 0 = .ok (.iload_n 0, 1) := by decide +kernel
theorem dX12_isCell_1 : decode cX12_isCell 1 = .ok (.i2l, 1) := by decide +kernel
theorem dX12_isCell_2 : decode cX12_isCell 2 = .ok (.lconst 0, 1) := by decide +kernel
theorem dX12_isCell_3 : decode cX12_isCell 3 = .ok (.ldc2_w 69, 3) := by decide +kernel
theorem dX12_isCell_6 : decode cX12_isCell 6 = .ok (.invokestatic 65, 3) := by decide +kernel
theorem dX12_isCell_9 : decode cX12_isCell 9 = .ok (.ireturn, 1) := by decide +kernel
theorem dX12_isMinute_0 : decode cX12_isMinute 0 = .ok (.iload_n 0, 1) := by decide +kernel
theorem dX12_isMinute_1 : decode cX12_isMinute 1 = .ok (.i2l, 1) := by decide +kernel
theorem dX12_isMinute_2 : decode cX12_isMinute 2 = .ok (.lconst 0, 1) := by decide +kernel
theorem dX12_isMinute_3 : decode cX12_isMinute 3 = .ok (.ldc2_w 71, 3) := by decide +kernel
theorem dX12_isMinute_6 : decode cX12_isMinute 6 = .ok (.invokestatic 65, 3) := by decide +kernel
theorem dX12_isMinute_9 : decode cX12_isMinute 9 = .ok (.ireturn, 1) := by decide +kernel
theorem dX12_get_0 : decode cX12_get 0 = .ok (.aload_n 0, 1) := by decide +kernel
theorem dX12_get_1 : decode cX12_get 1 = .ok (.getfield 7, 3) := by decide +kernel
theorem dX12_get_4 : decode cX12_get 4 = .ok (.bipush 6, 2) := by decide +kernel
theorem dX12_get_6 : decode cX12_get 6 = .ok (.iconst 5, 1) := by decide +kernel
theorem dX12_get_7 : decode cX12_get 7 = .ok (.iload_n 1, 1) := by decide +kernel
theorem dX12_get_8 : decode cX12_get 8 = .ok (.imul, 1) := by decide +kernel
theorem dX12_get_9 : decode cX12_get 9 = .ok (.iadd, 1) := by decide +kernel
theorem dX12_get_10 : decode cX12_get 10 = .ok (.iload_n 2, 1) := by decide +kernel
theorem dX12_get_11 : decode cX12_get 11 = .ok (.iadd, 1) := by decide +kernel
theorem dX12_get_12 : decode cX12_get 12 = .ok (.iaload, 1) := by decide +kernel
theorem dX12_get_13 : decode cX12_get 13 = .ok (.ireturn, 1) := by decide +kernel
theorem dX12_all_0 : decode cX12_all 0 = .ok (.iconst 1, 1) := by decide +kernel
theorem dX12_all_1 : decode cX12_all 1 = .ok (.aload_n 0, 1) := by decide +kernel
theorem dX12_all_2 : decode cX12_all 2 = .ok (.invokevirtual 61, 3) := by decide +kernel
theorem dX12_all_5 : decode cX12_all 5 = .ok (.ishl, 1) := by decide +kernel
theorem dX12_all_6 : decode cX12_all 6 = .ok (.iconst 1, 1) := by decide +kernel
theorem dX12_all_7 : decode cX12_all 7 = .ok (.isub, 1) := by decide +kernel
theorem dX12_all_8 : decode cX12_all 8 = .ok (.ireturn, 1) := by decide +kernel
theorem dX12_road_0 : decode cX12_road 0 = .ok (.iload_n 1, 1) := by decide +kernel
theorem dX12_road_1 : decode cX12_road 1 = .ok (.i2l, 1) := by decide +kernel
theorem dX12_road_2 : decode cX12_road 2 = .ok (.lconst 0, 1) := by decide +kernel
theorem dX12_road_3 : decode cX12_road 3 = .ok (.ldc2_w 69, 3) := by decide +kernel
theorem dX12_road_6 : decode cX12_road 6 = .ok (.invokestatic 65, 3) := by decide +kernel
theorem dX12_road_9 : decode cX12_road 9 = .ok (.ifCond .eq 15, 3) := by decide +kernel
theorem dX12_road_12 : decode cX12_road 12 = .ok (.iload_n 2, 1) := by decide +kernel
theorem dX12_road_13 : decode cX12_road 13 = .ok (.i2l, 1) := by decide +kernel
theorem dX12_road_14 : decode cX12_road 14 = .ok (.lconst 0, 1) := by decide +kernel
theorem dX12_road_15 : decode cX12_road 15 = .ok (.ldc2_w 73, 3) := by decide +kernel
theorem dX12_road_18 : decode cX12_road 18 = .ok (.invokestatic 65, 3) := by decide +kernel
theorem dX12_road_21 : decode cX12_road 21 = .ok (.ifCond .ne 10, 3) := by decide +kernel
theorem dX12_road_24 : decode cX12_road 24 = .ok (.aload_n 0, 1) := by decide +kernel
theorem dX12_road_25 : decode cX12_road 25 = .ok (.bipush (-2), 2) := by decide +kernel
theorem dX12_road_27 : decode cX12_road 27 = .ok (.invokevirtual 75, 3) := by decide +kernel
theorem dX12_road_30 : decode cX12_road 30 = .ok (.ireturn, 1) := by decide +kernel
theorem dX12_road_31 : decode cX12_road 31 = .ok (.aload_n 0, 1) := by decide +kernel
theorem dX12_road_32 : decode cX12_road 32 = .ok (.invokevirtual 61, 3) := by decide +kernel
theorem dX12_road_35 : decode cX12_road 35 = .ok (.istore_n 3, 1) := by decide +kernel
theorem dX12_road_36 : decode cX12_road 36 = .ok (.aload_n 0, 1) := by decide +kernel
theorem dX12_road_37 : decode cX12_road 37 = .ok (.getfield 7, 3) := by decide +kernel
theorem dX12_road_40 : decode cX12_road 40 = .ok (.iload_n 1, 1) := by decide +kernel
theorem dX12_road_41 : decode cX12_road 41 = .ok (.iload_n 2, 1) := by decide +kernel
theorem dX12_road_42 : decode cX12_road 42 = .ok (.invokestatic 57, 3) := by decide +kernel
theorem dX12_road_45 : decode cX12_road 45 = .ok (.iload_n 3, 1) := by decide +kernel
theorem dX12_road_46 : decode cX12_road 46 = .ok (.ireturn, 1) := by decide +kernel
theorem dX12_rule_0 : decode cX12_rule 0 = .ok (.iload_n 1, 1) := by decide +kernel
theorem dX12_rule_1 : decode cX12_rule 1 = .ok (.i2l, 1) := by decide +kernel
theorem dX12_rule_2 : decode cX12_rule 2 = .ok (.lconst 0, 1) := by decide +kernel
theorem dX12_rule_3 : decode cX12_rule 3 = .ok (.ldc2_w 73, 3) := by decide +kernel
theorem dX12_rule_6 : decode cX12_rule 6 = .ok (.invokestatic 65, 3) := by decide +kernel
theorem dX12_rule_9 : decode cX12_rule 9 = .ok (.ifCond .ne 10, 3) := by decide +kernel
theorem dX12_rule_12 : decode cX12_rule 12 = .ok (.aload_n 0, 1) := by decide +kernel
theorem dX12_rule_13 : decode cX12_rule 13 = .ok (.bipush (-2), 2) := by decide +kernel
theorem dX12_rule_15 : decode cX12_rule 15 = .ok (.invokevirtual 75, 3) := by decide +kernel
theorem dX12_rule_18 : decode cX12_rule 18 = .ok (.ireturn, 1) := by decide +kernel
theorem dX12_rule_19 : decode cX12_rule 19 = .ok (.aload_n 0, 1) := by decide +kernel
theorem dX12_rule_20 : decode cX12_rule 20 = .ok (.getfield 7, 3) := by decide +kernel
theorem dX12_rule_23 : decode cX12_rule 23 = .ok (.iconst 2, 1) := by decide +kernel
theorem dX12_rule_24 : decode cX12_rule 24 = .ok (.iaload, 1) := by decide +kernel
theorem dX12_rule_25 : decode cX12_rule 25 = .ok (.istore_n 2, 1) := by decide +kernel
theorem dX12_rule_26 : decode cX12_rule 26 = .ok (.aload_n 0, 1) := by decide +kernel
theorem dX12_rule_27 : decode cX12_rule 27 = .ok (.getfield 7, 3) := by decide +kernel
theorem dX12_rule_30 : decode cX12_rule 30 = .ok (.iconst 2, 1) := by decide +kernel
theorem dX12_rule_31 : decode cX12_rule 31 = .ok (.iload_n 1, 1) := by decide +kernel
theorem dX12_rule_32 : decode cX12_rule 32 = .ok (.iastore, 1) := by decide +kernel
theorem dX12_rule_33 : decode cX12_rule 33 = .ok (.iload_n 2, 1) := by decide +kernel
theorem dX12_rule_34 : decode cX12_rule 34 = .ok (.ireturn, 1) := by decide +kernel
theorem dX12_sight_0 : decode cX12_sight 0 = .ok (.iload_n 1, 1) := by decide +kernel
theorem dX12_sight_1 : decode cX12_sight 1 = .ok (.i2l, 1) := by decide +kernel
theorem dX12_sight_2 : decode cX12_sight 2 = .ok (.lconst 0, 1) := by decide +kernel
theorem dX12_sight_3 : decode cX12_sight 3 = .ok (.ldc2_w 69, 3) := by decide +kernel
theorem dX12_sight_6 : decode cX12_sight 6 = .ok (.invokestatic 65, 3) := by decide +kernel
theorem dX12_sight_9 : decode cX12_sight 9 = .ok (.ifCond .ne 10, 3) := by decide +kernel
theorem dX12_sight_12 : decode cX12_sight 12 = .ok (.aload_n 0, 1) := by decide +kernel
theorem dX12_sight_13 : decode cX12_sight 13 = .ok (.bipush (-2), 2) := by decide +kernel
theorem dX12_sight_15 : decode cX12_sight 15 = .ok (.invokevirtual 75, 3) := by decide +kernel
theorem dX12_sight_18 : decode cX12_sight 18 = .ok (.ireturn, 1) := by decide +kernel
theorem dX12_sight_19 : decode cX12_sight 19 = .ok (.aload_n 0, 1) := by decide +kernel
theorem dX12_sight_20 : decode cX12_sight 20 = .ok (.getfield 7, 3) := by decide +kernel
theorem dX12_sight_23 : decode cX12_sight 23 = .ok (.iconst 1, 1) := by decide +kernel
theorem dX12_sight_24 : decode cX12_sight 24 = .ok (.iaload, 1) := by decide +kernel
theorem dX12_sight_25 : decode cX12_sight 25 = .ok (.istore_n 2, 1) := by decide +kernel
theorem dX12_sight_26 : decode cX12_sight 26 = .ok (.aload_n 0, 1) := by decide +kernel
theorem dX12_sight_27 : decode cX12_sight 27 = .ok (.getfield 7, 3) := by decide +kernel
theorem dX12_sight_30 : decode cX12_sight 30 = .ok (.iconst 1, 1) := by decide +kernel
theorem dX12_sight_31 : decode cX12_sight 31 = .ok (.iload_n 1, 1) := by decide +kernel
theorem dX12_sight_32 : decode cX12_sight 32 = .ok (.iastore, 1) := by decide +kernel
theorem dX12_sight_33 : decode cX12_sight 33 = .ok (.iload_n 2, 1) := by decide +kernel
theorem dX12_sight_34 : decode cX12_sight 34 = .ok (.ireturn, 1) := by decide +kernel
theorem dX12_layChild_0 : decode cX12_layChild 0 = .ok (.bipush 6, 2) := by decide +kernel
theorem dX12_layChild_2 : decode cX12_layChild 2 = .ok (.iconst 5, 1) := by decide +kernel
theorem dX12_layChild_3 : decode cX12_layChild 3 = .ok (.aload_n 0, 1) := by decide +kernel
theorem dX12_layChild_4 : decode cX12_layChild 4 = .ok (.iconst 0, 1) := by decide +kernel
theorem dX12_layChild_5 : decode cX12_layChild 5 = .ok (.iaload, 1) := by decide +kernel
theorem dX12_layChild_6 : decode cX12_layChild 6 = .ok (.imul, 1) := by decide +kernel
theorem dX12_layChild_7 : decode cX12_layChild 7 = .ok (.iadd, 1) := by decide +kernel
theorem dX12_layChild_8 : decode cX12_layChild 8 = .ok (.istore 6, 2) := by decide +kernel
theorem dX12_layChild_10 : decode cX12_layChild 10 = .ok (.aload_n 0, 1) := by decide +kernel
theorem dX12_layChild_11 : decode cX12_layChild 11 = .ok (.iload 6, 2) := by decide +kernel
theorem dX12_layChild_13 : decode cX12_layChild 13 = .ok (.iconst 0, 1) := by decide +kernel
theorem dX12_layChild_14 : decode cX12_layChild 14 = .ok (.iadd, 1) := by decide +kernel
theorem dX12_layChild_15 : decode cX12_layChild 15 = .ok (.iload_n 1, 1) := by decide +kernel
theorem dX12_layChild_16 : decode cX12_layChild 16 = .ok (.iastore, 1) := by decide +kernel
theorem dX12_layChild_17 : decode cX12_layChild 17 = .ok (.aload_n 0, 1) := by decide +kernel
theorem dX12_layChild_18 : decode cX12_layChild 18 = .ok (.iload 6, 2) := by decide +kernel
theorem dX12_layChild_20 : decode cX12_layChild 20 = .ok (.iconst 1, 1) := by decide +kernel
theorem dX12_layChild_21 : decode cX12_layChild 21 = .ok (.iadd, 1) := by decide +kernel
theorem dX12_layChild_22 : decode cX12_layChild 22 = .ok (.iload_n 2, 1) := by decide +kernel
theorem dX12_layChild_23 : decode cX12_layChild 23 = .ok (.iastore, 1) := by decide +kernel
theorem dX12_layChild_24 : decode cX12_layChild 24 = .ok (.aload_n 0, 1) := by decide +kernel
theorem dX12_layChild_25 : decode cX12_layChild 25 = .ok (.iload 6, 2) := by decide +kernel
theorem dX12_layChild_27 : decode cX12_layChild 27 = .ok (.iconst 2, 1) := by decide +kernel
theorem dX12_layChild_28 : decode cX12_layChild 28 = .ok (.iadd, 1) := by decide +kernel
theorem dX12_layChild_29 : decode cX12_layChild 29 = .ok (.iload_n 3, 1) := by decide +kernel
theorem dX12_layChild_30 : decode cX12_layChild 30 = .ok (.iastore, 1) := by decide +kernel
theorem dX12_layChild_31 : decode cX12_layChild 31 = .ok (.aload_n 0, 1) := by decide +kernel
theorem dX12_layChild_32 : decode cX12_layChild 32 = .ok (.iload 6, 2) := by decide +kernel
theorem dX12_layChild_34 : decode cX12_layChild 34 = .ok (.iconst 3, 1) := by decide +kernel
theorem dX12_layChild_35 : decode cX12_layChild 35 = .ok (.iadd, 1) := by decide +kernel
theorem dX12_layChild_36 : decode cX12_layChild 36 = .ok (.iload 4, 2) := by decide +kernel
theorem dX12_layChild_38 : decode cX12_layChild 38 = .ok (.iastore, 1) := by decide +kernel
theorem dX12_layChild_39 : decode cX12_layChild 39 = .ok (.aload_n 0, 1) := by decide +kernel
theorem dX12_layChild_40 : decode cX12_layChild 40 = .ok (.iload 6, 2) := by decide +kernel
theorem dX12_layChild_42 : decode cX12_layChild 42 = .ok (.iconst 4, 1) := by decide +kernel
theorem dX12_layChild_43 : decode cX12_layChild 43 = .ok (.iadd, 1) := by decide +kernel
theorem dX12_layChild_44 : decode cX12_layChild 44 = .ok (.iload 5, 2) := by decide +kernel
theorem dX12_layChild_46 : decode cX12_layChild 46 = .ok (.iastore, 1) := by decide +kernel
theorem dX12_layChild_47 : decode cX12_layChild 47 = .ok (.aload_n 0, 1) := by decide +kernel
theorem dX12_layChild_48 : decode cX12_layChild 48 = .ok (.iconst 0, 1) := by decide +kernel
theorem dX12_layChild_49 : decode cX12_layChild 49 = .ok (.dup2, 1) := by decide +kernel
theorem dX12_layChild_50 : decode cX12_layChild 50 = .ok (.iaload, 1) := by decide +kernel
theorem dX12_layChild_51 : decode cX12_layChild 51 = .ok (.iconst 1, 1) := by decide +kernel
theorem dX12_layChild_52 : decode cX12_layChild 52 = .ok (.iadd, 1) := by decide +kernel
theorem dX12_layChild_53 : decode cX12_layChild 53 = .ok (.iastore, 1) := by decide +kernel
theorem dX12_layChild_54 : decode cX12_layChild 54 = .ok (.return_, 1) := by decide +kernel
theorem dX12_child_0 : decode cX12_child 0 = .ok (.iload_n 1, 1) := by decide +kernel
theorem dX12_child_1 : decode cX12_child 1 = .ok (.i2l, 1) := by decide +kernel
theorem dX12_child_2 : decode cX12_child 2 = .ok (.lconst 0, 1) := by decide +kernel
theorem dX12_child_3 : decode cX12_child 3 = .ok (.ldc2_w 79, 3) := by decide +kernel
theorem dX12_child_6 : decode cX12_child 6 = .ok (.invokestatic 65, 3) := by decide +kernel
theorem dX12_child_9 : decode cX12_child 9 = .ok (.ifCond .eq 48, 3) := by decide +kernel
theorem dX12_child_12 : decode cX12_child 12 = .ok (.iload_n 2, 1) := by decide +kernel
theorem dX12_child_13 : decode cX12_child 13 = .ok (.i2l, 1) := by decide +kernel
theorem dX12_child_14 : decode cX12_child 14 = .ok (.lconst 1, 1) := by decide +kernel
theorem dX12_child_15 : decode cX12_child 15 = .ok (.ldc2_w 81, 3) := by decide +kernel
theorem dX12_child_18 : decode cX12_child 18 = .ok (.invokestatic 65, 3) := by decide +kernel
theorem dX12_child_21 : decode cX12_child 21 = .ok (.ifCond .eq 36, 3) := by decide +kernel
theorem dX12_child_24 : decode cX12_child 24 = .ok (.iload_n 3, 1) := by decide +kernel
theorem dX12_child_25 : decode cX12_child 25 = .ok (.invokestatic 83, 3) := by decide +kernel
theorem dX12_child_28 : decode cX12_child 28 = .ok (.ifCond .eq 29, 3) := by decide +kernel
theorem dX12_child_31 : decode cX12_child 31 = .ok (.iload 4, 2) := by decide +kernel
theorem dX12_child_33 : decode cX12_child 33 = .ok (.i2l, 1) := by decide +kernel
theorem dX12_child_34 : decode cX12_child 34 = .ok (.lconst 0, 1) := by decide +kernel
theorem dX12_child_35 : decode cX12_child 35 = .ok (.ldc2_w 87, 3) := by decide +kernel
theorem dX12_child_38 : decode cX12_child 38 = .ok (.invokestatic 65, 3) := by decide +kernel
theorem dX12_child_41 : decode cX12_child 41 = .ok (.ifCond .eq 16, 3) := by decide +kernel
theorem dX12_child_44 : decode cX12_child 44 = .ok (.iload 5, 2) := by decide +kernel
theorem dX12_child_46 : decode cX12_child 46 = .ok (.i2l, 1) := by decide +kernel
theorem dX12_child_47 : decode cX12_child 47 = .ok (.lconst 0, 1) := by decide +kernel
theorem dX12_child_48 : decode cX12_child 48 = .ok (.ldc2_w 89, 3) := by decide +kernel
theorem dX12_child_51 : decode cX12_child 51 = .ok (.invokestatic 65, 3) := by decide +kernel
theorem dX12_child_54 : decode cX12_child 54 = .ok (.ifCond .ne 10, 3) := by decide +kernel
theorem dX12_child_57 : decode cX12_child 57 = .ok (.aload_n 0, 1) := by decide +kernel
theorem dX12_child_58 : decode cX12_child 58 = .ok (.bipush (-2), 2) := by decide +kernel
theorem dX12_child_60 : decode cX12_child 60 = .ok (.invokevirtual 75, 3) := by decide +kernel
theorem dX12_child_63 : decode cX12_child 63 = .ok (.ireturn, 1) := by decide +kernel
theorem dX12_child_64 : decode cX12_child 64 = .ok (.aload_n 0, 1) := by decide +kernel
theorem dX12_child_65 : decode cX12_child 65 = .ok (.invokevirtual 61, 3) := by decide +kernel
theorem dX12_child_68 : decode cX12_child 68 = .ok (.bipush 6, 2) := by decide +kernel
theorem dX12_child_70 : decode cX12_child 70 = .ok (.if_icmp .ne 8, 3) := by decide +kernel
theorem dX12_child_73 : decode cX12_child 73 = .ok (.aload_n 0, 1) := by decide +kernel
theorem dX12_child_74 : decode cX12_child 74 = .ok (.invokevirtual 91, 3) := by decide +kernel
theorem dX12_child_77 : decode cX12_child 77 = .ok (.ireturn, 1) := by decide +kernel
theorem dX12_child_78 : decode cX12_child 78 = .ok (.aload_n 0, 1) := by decide +kernel
theorem dX12_child_79 : decode cX12_child 79 = .ok (.getfield 7, 3) := by decide +kernel
theorem dX12_child_82 : decode cX12_child 82 = .ok (.iload_n 1, 1) := by decide +kernel
theorem dX12_child_83 : decode cX12_child 83 = .ok (.iload_n 2, 1) := by decide +kernel
theorem dX12_child_84 : decode cX12_child 84 = .ok (.iload_n 3, 1) := by decide +kernel
theorem dX12_child_85 : decode cX12_child 85 = .ok (.iload 4, 2) := by decide +kernel
theorem dX12_child_87 : decode cX12_child 87 = .ok (.iload 5, 2) := by decide +kernel
theorem dX12_child_89 : decode cX12_child 89 = .ok (.invokestatic 94, 3) := by decide +kernel
theorem dX12_child_92 : decode cX12_child 92 = .ok (.aload_n 0, 1) := by decide +kernel
theorem dX12_child_93 : decode cX12_child 93 = .ok (.getfield 7, 3) := by decide +kernel
theorem dX12_child_96 : decode cX12_child 96 = .ok (.iconst 5, 1) := by decide +kernel
theorem dX12_child_97 : decode cX12_child 97 = .ok (.iconst 0, 1) := by decide +kernel
theorem dX12_child_98 : decode cX12_child 98 = .ok (.iastore, 1) := by decide +kernel
theorem dX12_child_99 : decode cX12_child 99 = .ok (.aload_n 0, 1) := by decide +kernel
theorem dX12_child_100 : decode cX12_child 100 = .ok (.invokevirtual 61, 3) := by decide +kernel
theorem dX12_child_103 : decode cX12_child 103 = .ok (.iconst 1, 1) := by decide +kernel
theorem dX12_child_104 : decode cX12_child 104 = .ok (.isub, 1) := by decide +kernel
theorem dX12_child_105 : decode cX12_child 105 = .ok (.ireturn, 1) := by decide +kernel
theorem dX12_keep_0 : decode cX12_keep 0 = .ok (.aload_n 0, 1) := by decide +kernel
theorem dX12_keep_1 : decode cX12_keep 1 = .ok (.getfield 7, 3) := by decide +kernel
theorem dX12_keep_4 : decode cX12_keep 4 = .ok (.iconst 5, 1) := by decide +kernel
theorem dX12_keep_5 : decode cX12_keep 5 = .ok (.iaload, 1) := by decide +kernel
theorem dX12_keep_6 : decode cX12_keep 6 = .ok (.bipush 8, 2) := by decide +kernel
theorem dX12_keep_8 : decode cX12_keep 8 = .ok (.if_icmp .ne 43, 3) := by decide +kernel
theorem dX12_keep_11 : decode cX12_keep 11 = .ok (.iconst 0, 1) := by decide +kernel
theorem dX12_keep_12 : decode cX12_keep 12 = .ok (.istore_n 1, 1) := by decide +kernel
theorem dX12_keep_13 : decode cX12_keep 13 = .ok (.iload_n 1, 1) := by decide +kernel
theorem dX12_keep_14 : decode cX12_keep 14 = .ok (.bipush 84, 2) := by decide +kernel
theorem dX12_keep_16 : decode cX12_keep 16 = .ok (.if_icmp .ge 27, 3) := by decide +kernel
theorem dX12_keep_19 : decode cX12_keep 19 = .ok (.aload_n 0, 1) := by decide +kernel
theorem dX12_keep_20 : decode cX12_keep 20 = .ok (.getfield 7, 3) := by decide +kernel
theorem dX12_keep_23 : decode cX12_keep 23 = .ok (.bipush 74, 2) := by decide +kernel
theorem dX12_keep_25 : decode cX12_keep 25 = .ok (.iload_n 1, 1) := by decide +kernel
theorem dX12_keep_26 : decode cX12_keep 26 = .ok (.iadd, 1) := by decide +kernel
theorem dX12_keep_27 : decode cX12_keep 27 = .ok (.aload_n 0, 1) := by decide +kernel
theorem dX12_keep_28 : decode cX12_keep 28 = .ok (.getfield 7, 3) := by decide +kernel
theorem dX12_keep_31 : decode cX12_keep 31 = .ok (.bipush 86, 2) := by decide +kernel
theorem dX12_keep_33 : decode cX12_keep 33 = .ok (.iload_n 1, 1) := by decide +kernel
theorem dX12_keep_34 : decode cX12_keep 34 = .ok (.iadd, 1) := by decide +kernel
theorem dX12_keep_35 : decode cX12_keep 35 = .ok (.iaload, 1) := by decide +kernel
theorem dX12_keep_36 : decode cX12_keep 36 = .ok (.iastore, 1) := by decide +kernel
theorem dX12_keep_37 : decode cX12_keep 37 = .ok (.iinc 1 1, 3) := by decide +kernel
theorem dX12_keep_40 : decode cX12_keep 40 = .ok (.goto (-27), 3) := by decide +kernel
theorem dX12_keep_43 : decode cX12_keep 43 = .ok (.aload_n 0, 1) := by decide +kernel
theorem dX12_keep_44 : decode cX12_keep 44 = .ok (.getfield 7, 3) := by decide +kernel
theorem dX12_keep_47 : decode cX12_keep 47 = .ok (.iconst 5, 1) := by decide +kernel
theorem dX12_keep_48 : decode cX12_keep 48 = .ok (.bipush 7, 2) := by decide +kernel
theorem dX12_keep_50 : decode cX12_keep 50 = .ok (.iastore, 1) := by decide +kernel
theorem dX12_keep_51 : decode cX12_keep 51 = .ok (.bipush 74, 2) := by decide +kernel
theorem dX12_keep_53 : decode cX12_keep 53 = .ok (.bipush 12, 2) := by decide +kernel
theorem dX12_keep_55 : decode cX12_keep 55 = .ok (.aload_n 0, 1) := by decide +kernel
theorem dX12_keep_56 : decode cX12_keep 56 = .ok (.getfield 7, 3) := by decide +kernel
theorem dX12_keep_59 : decode cX12_keep 59 = .ok (.iconst 5, 1) := by decide +kernel
theorem dX12_keep_60 : decode cX12_keep 60 = .ok (.iaload, 1) := by decide +kernel
theorem dX12_keep_61 : decode cX12_keep 61 = .ok (.imul, 1) := by decide +kernel
theorem dX12_keep_62 : decode cX12_keep 62 = .ok (.iadd, 1) := by decide +kernel
theorem dX12_keep_63 : decode cX12_keep 63 = .ok (.istore_n 1, 1) := by decide +kernel
theorem dX12_keep_64 : decode cX12_keep 64 = .ok (.iconst 0, 1) := by decide +kernel
theorem dX12_keep_65 : decode cX12_keep 65 = .ok (.istore_n 2, 1) := by decide +kernel
theorem dX12_keep_66 : decode cX12_keep 66 = .ok (.iload_n 2, 1) := by decide +kernel
theorem dX12_keep_67 : decode cX12_keep 67 = .ok (.bipush 6, 2) := by decide +kernel
theorem dX12_keep_69 : decode cX12_keep 69 = .ok (.if_icmp .ge 43, 3) := by decide +kernel
theorem dX12_keep_72 : decode cX12_keep 72 = .ok (.aload_n 0, 1) := by decide +kernel
theorem dX12_keep_73 : decode cX12_keep 73 = .ok (.getfield 7, 3) := by decide +kernel
theorem dX12_keep_76 : decode cX12_keep 76 = .ok (.iload_n 1, 1) := by decide +kernel
theorem dX12_keep_77 : decode cX12_keep 77 = .ok (.iconst 2, 1) := by decide +kernel
theorem dX12_keep_78 : decode cX12_keep 78 = .ok (.iload_n 2, 1) := by decide +kernel
theorem dX12_keep_79 : decode cX12_keep 79 = .ok (.imul, 1) := by decide +kernel
theorem dX12_keep_80 : decode cX12_keep 80 = .ok (.iadd, 1) := by decide +kernel
theorem dX12_keep_81 : decode cX12_keep 81 = .ok (.aload_n 0, 1) := by decide +kernel
theorem dX12_keep_82 : decode cX12_keep 82 = .ok (.iload_n 2, 1) := by decide +kernel
theorem dX12_keep_83 : decode cX12_keep 83 = .ok (.iconst 2, 1) := by decide +kernel
theorem dX12_keep_84 : decode cX12_keep 84 = .ok (.invokevirtual 98, 3) := by decide +kernel
theorem dX12_keep_87 : decode cX12_keep 87 = .ok (.iastore, 1) := by decide +kernel
theorem dX12_keep_88 : decode cX12_keep 88 = .ok (.aload_n 0, 1) := by decide +kernel
theorem dX12_keep_89 : decode cX12_keep 89 = .ok (.getfield 7, 3) := by decide +kernel
theorem dX12_keep_92 : decode cX12_keep 92 = .ok (.iload_n 1, 1) := by decide +kernel
theorem dX12_keep_93 : decode cX12_keep 93 = .ok (.iconst 2, 1) := by decide +kernel
theorem dX12_keep_94 : decode cX12_keep 94 = .ok (.iload_n 2, 1) := by decide +kernel
theorem dX12_keep_95 : decode cX12_keep 95 = .ok (.imul, 1) := by decide +kernel
theorem dX12_keep_96 : decode cX12_keep 96 = .ok (.iadd, 1) := by decide +kernel
theorem dX12_keep_97 : decode cX12_keep 97 = .ok (.iconst 1, 1) := by decide +kernel
theorem dX12_keep_98 : decode cX12_keep 98 = .ok (.iadd, 1) := by decide +kernel
theorem dX12_keep_99 : decode cX12_keep 99 = .ok (.aload_n 0, 1) := by decide +kernel
theorem dX12_keep_100 : decode cX12_keep 100 = .ok (.iload_n 2, 1) := by decide +kernel
theorem dX12_keep_101 : decode cX12_keep 101 = .ok (.iconst 4, 1) := by decide +kernel
theorem dX12_keep_102 : decode cX12_keep 102 = .ok (.invokevirtual 98, 3) := by decide +kernel
theorem dX12_keep_105 : decode cX12_keep 105 = .ok (.iastore, 1) := by decide +kernel
theorem dX12_keep_106 : decode cX12_keep 106 = .ok (.iinc 2 1, 3) := by decide +kernel
theorem dX12_keep_109 : decode cX12_keep 109 = .ok (.goto (-43), 3) := by decide +kernel
theorem dX12_keep_112 : decode cX12_keep 112 = .ok (.aload_n 0, 1) := by decide +kernel
theorem dX12_keep_113 : decode cX12_keep 113 = .ok (.getfield 7, 3) := by decide +kernel
theorem dX12_keep_116 : decode cX12_keep 116 = .ok (.iconst 5, 1) := by decide +kernel
theorem dX12_keep_117 : decode cX12_keep 117 = .ok (.dup2, 1) := by decide +kernel
theorem dX12_keep_118 : decode cX12_keep 118 = .ok (.iaload, 1) := by decide +kernel
theorem dX12_keep_119 : decode cX12_keep 119 = .ok (.iconst 1, 1) := by decide +kernel
theorem dX12_keep_120 : decode cX12_keep 120 = .ok (.iadd, 1) := by decide +kernel
theorem dX12_keep_121 : decode cX12_keep 121 = .ok (.iastore, 1) := by decide +kernel
theorem dX12_keep_122 : decode cX12_keep 122 = .ok (.return_, 1) := by decide +kernel
theorem dX12_tellAnew_0 : decode cX12_tellAnew 0 = .ok (.aload_n 0, 1) := by decide +kernel
theorem dX12_tellAnew_1 : decode cX12_tellAnew 1 = .ok (.iload_n 1, 1) := by decide +kernel
theorem dX12_tellAnew_2 : decode cX12_tellAnew 2 = .ok (.iload_n 2, 1) := by decide +kernel
theorem dX12_tellAnew_3 : decode cX12_tellAnew 3 = .ok (.invokevirtual 98, 3) := by decide +kernel
theorem dX12_tellAnew_6 : decode cX12_tellAnew 6 = .ok (.istore 4, 2) := by decide +kernel
theorem dX12_tellAnew_8 : decode cX12_tellAnew 8 = .ok (.aload_n 0, 1) := by decide +kernel
theorem dX12_tellAnew_9 : decode cX12_tellAnew 9 = .ok (.invokevirtual 102, 3) := by decide +kernel
theorem dX12_tellAnew_12 : decode cX12_tellAnew 12 = .ok (.aload_n 0, 1) := by decide +kernel
theorem dX12_tellAnew_13 : decode cX12_tellAnew 13 = .ok (.getfield 7, 3) := by decide +kernel
theorem dX12_tellAnew_16 : decode cX12_tellAnew 16 = .ok (.bipush 6, 2) := by decide +kernel
theorem dX12_tellAnew_18 : decode cX12_tellAnew 18 = .ok (.iconst 5, 1) := by decide +kernel
theorem dX12_tellAnew_19 : decode cX12_tellAnew 19 = .ok (.iload_n 1, 1) := by decide +kernel
theorem dX12_tellAnew_20 : decode cX12_tellAnew 20 = .ok (.imul, 1) := by decide +kernel
theorem dX12_tellAnew_21 : decode cX12_tellAnew 21 = .ok (.iadd, 1) := by decide +kernel
theorem dX12_tellAnew_22 : decode cX12_tellAnew 22 = .ok (.iload_n 2, 1) := by decide +kernel
theorem dX12_tellAnew_23 : decode cX12_tellAnew 23 = .ok (.iadd, 1) := by decide +kernel
theorem dX12_tellAnew_24 : decode cX12_tellAnew 24 = .ok (.iload_n 3, 1) := by decide +kernel
theorem dX12_tellAnew_25 : decode cX12_tellAnew 25 = .ok (.iastore, 1) := by decide +kernel
theorem dX12_tellAnew_26 : decode cX12_tellAnew 26 = .ok (.iload 4, 2) := by decide +kernel
theorem dX12_tellAnew_28 : decode cX12_tellAnew 28 = .ok (.ireturn, 1) := by decide +kernel
theorem dX12_stand_0 : decode cX12_stand 0 = .ok (.aload_n 0, 1) := by decide +kernel
theorem dX12_stand_1 : decode cX12_stand 1 = .ok (.iload_n 1, 1) := by decide +kernel
theorem dX12_stand_2 : decode cX12_stand 2 = .ok (.invokevirtual 105, 3) := by decide +kernel
theorem dX12_stand_5 : decode cX12_stand 5 = .ok (.ifCond .eq 20, 3) := by decide +kernel
theorem dX12_stand_8 : decode cX12_stand 8 = .ok (.iload_n 2, 1) := by decide +kernel
theorem dX12_stand_9 : decode cX12_stand 9 = .ok (.invokestatic 83, 3) := by decide +kernel
theorem dX12_stand_12 : decode cX12_stand 12 = .ok (.ifCond .eq 13, 3) := by decide +kernel
theorem dX12_stand_15 : decode cX12_stand 15 = .ok (.aload_n 0, 1) := by decide +kernel
theorem dX12_stand_16 : decode cX12_stand 16 = .ok (.iload_n 1, 1) := by decide +kernel
theorem dX12_stand_17 : decode cX12_stand 17 = .ok (.iconst 2, 1) := by decide +kernel
theorem dX12_stand_18 : decode cX12_stand 18 = .ok (.iload_n 2, 1) := by decide +kernel
theorem dX12_stand_19 : decode cX12_stand 19 = .ok (.invokevirtual 108, 3) := by decide +kernel
theorem dX12_stand_22 : decode cX12_stand 22 = .ok (.goto 9, 3) := by decide +kernel
theorem dX12_stand_25 : decode cX12_stand 25 = .ok (.aload_n 0, 1) := by decide +kernel
theorem dX12_stand_26 : decode cX12_stand 26 = .ok (.bipush (-2), 2) := by decide +kernel
theorem dX12_stand_28 : decode cX12_stand 28 = .ok (.invokevirtual 75, 3) := by decide +kernel
theorem dX12_stand_31 : decode cX12_stand 31 = .ok (.ireturn, 1) := by decide +kernel
theorem dX12_bed_0 : decode cX12_bed 0 = .ok (.aload_n 0, 1) := by decide +kernel
theorem dX12_bed_1 : decode cX12_bed 1 = .ok (.iload_n 1, 1) := by decide +kernel
theorem dX12_bed_2 : decode cX12_bed 2 = .ok (.invokevirtual 105, 3) := by decide +kernel
theorem dX12_bed_5 : decode cX12_bed 5 = .ok (.ifCond .eq 25, 3) := by decide +kernel
theorem dX12_bed_8 : decode cX12_bed 8 = .ok (.iload_n 2, 1) := by decide +kernel
theorem dX12_bed_9 : decode cX12_bed 9 = .ok (.i2l, 1) := by decide +kernel
theorem dX12_bed_10 : decode cX12_bed 10 = .ok (.lconst 0, 1) := by decide +kernel
theorem dX12_bed_11 : decode cX12_bed 11 = .ok (.ldc2_w 89, 3) := by decide +kernel
theorem dX12_bed_14 : decode cX12_bed 14 = .ok (.invokestatic 65, 3) := by decide +kernel
theorem dX12_bed_17 : decode cX12_bed 17 = .ok (.ifCond .eq 13, 3) := by decide +kernel
theorem dX12_bed_20 : decode cX12_bed 20 = .ok (.aload_n 0, 1) := by decide +kernel
theorem dX12_bed_21 : decode cX12_bed 21 = .ok (.iload_n 1, 1) := by decide +kernel
theorem dX12_bed_22 : decode cX12_bed 22 = .ok (.iconst 4, 1) := by decide +kernel
theorem dX12_bed_23 : decode cX12_bed 23 = .ok (.iload_n 2, 1) := by decide +kernel
theorem dX12_bed_24 : decode cX12_bed 24 = .ok (.invokevirtual 108, 3) := by decide +kernel
theorem dX12_bed_27 : decode cX12_bed 27 = .ok (.goto 9, 3) := by decide +kernel
theorem dX12_bed_30 : decode cX12_bed 30 = .ok (.aload_n 0, 1) := by decide +kernel
theorem dX12_bed_31 : decode cX12_bed 31 = .ok (.bipush (-2), 2) := by decide +kernel
theorem dX12_bed_33 : decode cX12_bed 33 = .ok (.invokevirtual 75, 3) := by decide +kernel
theorem dX12_bed_36 : decode cX12_bed 36 = .ok (.ireturn, 1) := by decide +kernel
theorem dX12_undo_0 : decode cX12_undo 0 = .ok (.aload_n 0, 1) := by decide +kernel
theorem dX12_undo_1 : decode cX12_undo 1 = .ok (.getfield 7, 3) := by decide +kernel
theorem dX12_undo_4 : decode cX12_undo 4 = .ok (.iconst 5, 1) := by decide +kernel
theorem dX12_undo_5 : decode cX12_undo 5 = .ok (.iaload, 1) := by decide +kernel
theorem dX12_undo_6 : decode cX12_undo 6 = .ok (.ifCond .ne 8, 3) := by decide +kernel
theorem dX12_undo_9 : decode cX12_undo 9 = .ok (.aload_n 0, 1) := by decide +kernel
theorem dX12_undo_10 : decode cX12_undo 10 = .ok (.invokevirtual 112, 3) := by decide +kernel
theorem dX12_undo_13 : decode cX12_undo 13 = .ok (.ireturn, 1) := by decide +kernel
theorem dX12_undo_14 : decode cX12_undo 14 = .ok (.aload_n 0, 1) := by decide +kernel
theorem dX12_undo_15 : decode cX12_undo 15 = .ok (.getfield 7, 3) := by decide +kernel
theorem dX12_undo_18 : decode cX12_undo 18 = .ok (.iconst 5, 1) := by decide +kernel
theorem dX12_undo_19 : decode cX12_undo 19 = .ok (.dup2, 1) := by decide +kernel
theorem dX12_undo_20 : decode cX12_undo 20 = .ok (.iaload, 1) := by decide +kernel
theorem dX12_undo_21 : decode cX12_undo 21 = .ok (.iconst 1, 1) := by decide +kernel
theorem dX12_undo_22 : decode cX12_undo 22 = .ok (.isub, 1) := by decide +kernel
theorem dX12_undo_23 : decode cX12_undo 23 = .ok (.iastore, 1) := by decide +kernel
theorem dX12_undo_24 : decode cX12_undo 24 = .ok (.bipush 74, 2) := by decide +kernel
theorem dX12_undo_26 : decode cX12_undo 26 = .ok (.bipush 12, 2) := by decide +kernel
theorem dX12_undo_28 : decode cX12_undo 28 = .ok (.aload_n 0, 1) := by decide +kernel
theorem dX12_undo_29 : decode cX12_undo 29 = .ok (.getfield 7, 3) := by decide +kernel
theorem dX12_undo_32 : decode cX12_undo 32 = .ok (.iconst 5, 1) := by decide +kernel
theorem dX12_undo_33 : decode cX12_undo 33 = .ok (.iaload, 1) := by decide +kernel
theorem dX12_undo_34 : decode cX12_undo 34 = .ok (.imul, 1) := by decide +kernel
theorem dX12_undo_35 : decode cX12_undo 35 = .ok (.iadd, 1) := by decide +kernel
theorem dX12_undo_36 : decode cX12_undo 36 = .ok (.istore_n 1, 1) := by decide +kernel
theorem dX12_undo_37 : decode cX12_undo 37 = .ok (.iconst 0, 1) := by decide +kernel
theorem dX12_undo_38 : decode cX12_undo 38 = .ok (.istore_n 2, 1) := by decide +kernel
theorem dX12_undo_39 : decode cX12_undo 39 = .ok (.iload_n 2, 1) := by decide +kernel
theorem dX12_undo_40 : decode cX12_undo 40 = .ok (.bipush 6, 2) := by decide +kernel
theorem dX12_undo_42 : decode cX12_undo 42 = .ok (.if_icmp .ge 57, 3) := by decide +kernel
theorem dX12_undo_45 : decode cX12_undo 45 = .ok (.aload_n 0, 1) := by decide +kernel
theorem dX12_undo_46 : decode cX12_undo 46 = .ok (.getfield 7, 3) := by decide +kernel
theorem dX12_undo_49 : decode cX12_undo 49 = .ok (.bipush 6, 2) := by decide +kernel
theorem dX12_undo_51 : decode cX12_undo 51 = .ok (.iconst 5, 1) := by decide +kernel
theorem dX12_undo_52 : decode cX12_undo 52 = .ok (.iload_n 2, 1) := by decide +kernel
theorem dX12_undo_53 : decode cX12_undo 53 = .ok (.imul, 1) := by decide +kernel
theorem dX12_undo_54 : decode cX12_undo 54 = .ok (.iadd, 1) := by decide +kernel
theorem dX12_undo_55 : decode cX12_undo 55 = .ok (.iconst 2, 1) := by decide +kernel
theorem dX12_undo_56 : decode cX12_undo 56 = .ok (.iadd, 1) := by decide +kernel
theorem dX12_undo_57 : decode cX12_undo 57 = .ok (.aload_n 0, 1) := by decide +kernel
theorem dX12_undo_58 : decode cX12_undo 58 = .ok (.getfield 7, 3) := by decide +kernel
theorem dX12_undo_61 : decode cX12_undo 61 = .ok (.iload_n 1, 1) := by decide +kernel
theorem dX12_undo_62 : decode cX12_undo 62 = .ok (.iconst 2, 1) := by decide +kernel
theorem dX12_undo_63 : decode cX12_undo 63 = .ok (.iload_n 2, 1) := by decide +kernel
theorem dX12_undo_64 : decode cX12_undo 64 = .ok (.imul, 1) := by decide +kernel
theorem dX12_undo_65 : decode cX12_undo 65 = .ok (.iadd, 1) := by decide +kernel
theorem dX12_undo_66 : decode cX12_undo 66 = .ok (.iaload, 1) := by decide +kernel
theorem dX12_undo_67 : decode cX12_undo 67 = .ok (.iastore, 1) := by decide +kernel
theorem dX12_undo_68 : decode cX12_undo 68 = .ok (.aload_n 0, 1) := by decide +kernel
theorem dX12_undo_69 : decode cX12_undo 69 = .ok (.getfield 7, 3) := by decide +kernel
theorem dX12_undo_72 : decode cX12_undo 72 = .ok (.bipush 6, 2) := by decide +kernel
theorem dX12_undo_74 : decode cX12_undo 74 = .ok (.iconst 5, 1) := by decide +kernel
theorem dX12_undo_75 : decode cX12_undo 75 = .ok (.iload_n 2, 1) := by decide +kernel
theorem dX12_undo_76 : decode cX12_undo 76 = .ok (.imul, 1) := by decide +kernel
theorem dX12_undo_77 : decode cX12_undo 77 = .ok (.iadd, 1) := by decide +kernel
theorem dX12_undo_78 : decode cX12_undo 78 = .ok (.iconst 4, 1) := by decide +kernel
theorem dX12_undo_79 : decode cX12_undo 79 = .ok (.iadd, 1) := by decide +kernel
theorem dX12_undo_80 : decode cX12_undo 80 = .ok (.aload_n 0, 1) := by decide +kernel
theorem dX12_undo_81 : decode cX12_undo 81 = .ok (.getfield 7, 3) := by decide +kernel
theorem dX12_undo_84 : decode cX12_undo 84 = .ok (.iload_n 1, 1) := by decide +kernel
theorem dX12_undo_85 : decode cX12_undo 85 = .ok (.iconst 2, 1) := by decide +kernel
theorem dX12_undo_86 : decode cX12_undo 86 = .ok (.iload_n 2, 1) := by decide +kernel
theorem dX12_undo_87 : decode cX12_undo 87 = .ok (.imul, 1) := by decide +kernel
theorem dX12_undo_88 : decode cX12_undo 88 = .ok (.iadd, 1) := by decide +kernel
theorem dX12_undo_89 : decode cX12_undo 89 = .ok (.iconst 1, 1) := by decide +kernel
theorem dX12_undo_90 : decode cX12_undo 90 = .ok (.iadd, 1) := by decide +kernel
theorem dX12_undo_91 : decode cX12_undo 91 = .ok (.iaload, 1) := by decide +kernel
theorem dX12_undo_92 : decode cX12_undo 92 = .ok (.iastore, 1) := by decide +kernel
theorem dX12_undo_93 : decode cX12_undo 93 = .ok (.iinc 2 1, 3) := by decide +kernel
theorem dX12_undo_96 : decode cX12_undo 96 = .ok (.goto (-57), 3) := by decide +kernel
theorem dX12_undo_99 : decode cX12_undo 99 = .ok (.aload_n 0, 1) := by decide +kernel
theorem dX12_undo_100 : decode cX12_undo 100 = .ok (.getfield 7, 3) := by decide +kernel
theorem dX12_undo_103 : decode cX12_undo 103 = .ok (.iconst 5, 1) := by decide +kernel
theorem dX12_undo_104 : decode cX12_undo 104 = .ok (.iaload, 1) := by decide +kernel
theorem dX12_undo_105 : decode cX12_undo 105 = .ok (.ireturn, 1) := by decide +kernel
theorem dX12_layHand_0 : decode cX12_layHand 0 = .ok (.iconst 0, 1) := by decide +kernel
theorem dX12_layHand_1 : decode cX12_layHand 1 = .ok (.istore_n 2, 1) := by decide +kernel
theorem dX12_layHand_2 : decode cX12_layHand 2 = .ok (.iload_n 2, 1) := by decide +kernel
theorem dX12_layHand_3 : decode cX12_layHand 3 = .ok (.aload_n 0, 1) := by decide +kernel
theorem dX12_layHand_4 : decode cX12_layHand 4 = .ok (.invokevirtual 61, 3) := by decide +kernel
theorem dX12_layHand_7 : decode cX12_layHand 7 = .ok (.if_icmp .ge 33, 3) := by decide +kernel
theorem dX12_layHand_10 : decode cX12_layHand 10 = .ok (.aload_n 0, 1) := by decide +kernel
theorem dX12_layHand_11 : decode cX12_layHand 11 = .ok (.getfield 27, 3) := by decide +kernel
theorem dX12_layHand_14 : decode cX12_layHand 14 = .ok (.iload_n 2, 1) := by decide +kernel
theorem dX12_layHand_15 : decode cX12_layHand 15 = .ok (.aload_n 0, 1) := by decide +kernel
theorem dX12_layHand_16 : decode cX12_layHand 16 = .ok (.iload_n 2, 1) := by decide +kernel
theorem dX12_layHand_17 : decode cX12_layHand 17 = .ok (.iconst 0, 1) := by decide +kernel
theorem dX12_layHand_18 : decode cX12_layHand 18 = .ok (.invokevirtual 98, 3) := by decide +kernel
theorem dX12_layHand_21 : decode cX12_layHand 21 = .ok (.iastore, 1) := by decide +kernel
theorem dX12_layHand_22 : decode cX12_layHand 22 = .ok (.aload_n 0, 1) := by decide +kernel
theorem dX12_layHand_23 : decode cX12_layHand 23 = .ok (.getfield 30, 3) := by decide +kernel
theorem dX12_layHand_26 : decode cX12_layHand 26 = .ok (.iload_n 2, 1) := by decide +kernel
theorem dX12_layHand_27 : decode cX12_layHand 27 = .ok (.aload_n 0, 1) := by decide +kernel
theorem dX12_layHand_28 : decode cX12_layHand 28 = .ok (.iload_n 2, 1) := by decide +kernel
theorem dX12_layHand_29 : decode cX12_layHand 29 = .ok (.iconst 2, 1) := by decide +kernel
theorem dX12_layHand_30 : decode cX12_layHand 30 = .ok (.invokevirtual 98, 3) := by decide +kernel
theorem dX12_layHand_33 : decode cX12_layHand 33 = .ok (.iastore, 1) := by decide +kernel
theorem dX12_layHand_34 : decode cX12_layHand 34 = .ok (.iinc 2 1, 3) := by decide +kernel
theorem dX12_layHand_37 : decode cX12_layHand 37 = .ok (.goto (-35), 3) := by decide +kernel
theorem dX12_layHand_40 : decode cX12_layHand 40 = .ok (.aload_n 0, 1) := by decide +kernel
theorem dX12_layHand_41 : decode cX12_layHand 41 = .ok (.iload_n 1, 1) := by decide +kernel
theorem dX12_layHand_42 : decode cX12_layHand 42 = .ok (.putfield 115, 3) := by decide +kernel
theorem dX12_layHand_45 : decode cX12_layHand 45 = .ok (.return_, 1) := by decide +kernel
theorem dX12_cellOf_0 : decode cX12_cellOf 0 = .ok (.aload_n 0, 1) := by decide +kernel
theorem dX12_cellOf_1 : decode cX12_cellOf 1 = .ok (.getfield 27, 3) := by decide +kernel
theorem dX12_cellOf_4 : decode cX12_cellOf 4 = .ok (.iload_n 1, 1) := by decide +kernel
theorem dX12_cellOf_5 : decode cX12_cellOf 5 = .ok (.iaload, 1) := by decide +kernel
theorem dX12_cellOf_6 : decode cX12_cellOf 6 = .ok (.iconst 2, 1) := by decide +kernel
theorem dX12_cellOf_7 : decode cX12_cellOf 7 = .ok (.if_icmp .eq 13, 3) := by decide +kernel
theorem dX12_cellOf_10 : decode cX12_cellOf 10 = .ok (.aload_n 0, 1) := by decide +kernel
theorem dX12_cellOf_11 : decode cX12_cellOf 11 = .ok (.getfield 27, 3) := by decide +kernel
theorem dX12_cellOf_14 : decode cX12_cellOf 14 = .ok (.iload_n 1, 1) := by decide +kernel
theorem dX12_cellOf_15 : decode cX12_cellOf 15 = .ok (.iaload, 1) := by decide +kernel
theorem dX12_cellOf_16 : decode cX12_cellOf 16 = .ok (.iconst 5, 1) := by decide +kernel
theorem dX12_cellOf_17 : decode cX12_cellOf 17 = .ok (.if_icmp .ne 7, 3) := by decide +kernel
theorem dX12_cellOf_20 : decode cX12_cellOf 20 = .ok (.iconst 1, 1) := by decide +kernel
theorem dX12_cellOf_21 : decode cX12_cellOf 21 = .ok (.goto 4, 3) := by decide +kernel
theorem dX12_cellOf_24 : decode cX12_cellOf 24 = .ok (.iconst 0, 1) := by decide +kernel
theorem dX12_cellOf_25 : decode cX12_cellOf 25 = .ok (.istore_n 3, 1) := by decide +kernel
theorem dX12_cellOf_26 : decode cX12_cellOf 26 = .ok (.aload_n 0, 1) := by decide +kernel
theorem dX12_cellOf_27 : decode cX12_cellOf 27 = .ok (.getfield 30, 3) := by decide +kernel
theorem dX12_cellOf_30 : decode cX12_cellOf 30 = .ok (.iload_n 1, 1) := by decide +kernel
theorem dX12_cellOf_31 : decode cX12_cellOf 31 = .ok (.iaload, 1) := by decide +kernel
theorem dX12_cellOf_32 : decode cX12_cellOf 32 = .ok (.aload_n 0, 1) := by decide +kernel
theorem dX12_cellOf_33 : decode cX12_cellOf 33 = .ok (.iload_n 1, 1) := by decide +kernel
theorem dX12_cellOf_34 : decode cX12_cellOf 34 = .ok (.iconst 3, 1) := by decide +kernel
theorem dX12_cellOf_35 : decode cX12_cellOf 35 = .ok (.invokevirtual 98, 3) := by decide +kernel
theorem dX12_cellOf_38 : decode cX12_cellOf 38 = .ok (.iload_n 3, 1) := by decide +kernel
theorem dX12_cellOf_39 : decode cX12_cellOf 39 = .ok (.ifCond .eq 9, 3) := by decide +kernel
theorem dX12_cellOf_42 : decode cX12_cellOf 42 = .ok (.iload_n 2, 1) := by decide +kernel
theorem dX12_cellOf_43 : decode cX12_cellOf 43 = .ok (.iconst 2, 1) := by decide +kernel
theorem dX12_cellOf_44 : decode cX12_cellOf 44 = .ok (.irem, 1) := by decide +kernel
theorem dX12_cellOf_45 : decode cX12_cellOf 45 = .ok (.goto 4, 3) := by decide +kernel
theorem dX12_cellOf_48 : decode cX12_cellOf 48 = .ok (.iload_n 2, 1) := by decide +kernel
theorem dX12_cellOf_49 : decode cX12_cellOf 49 = .ok (.imul, 1) := by decide +kernel
theorem dX12_cellOf_50 : decode cX12_cellOf 50 = .ok (.iadd, 1) := by decide +kernel
theorem dX12_cellOf_51 : decode cX12_cellOf 51 = .ok (.istore 4, 2) := by decide +kernel
theorem dX12_cellOf_53 : decode cX12_cellOf 53 = .ok (.iload 4, 2) := by decide +kernel
theorem dX12_cellOf_55 : decode cX12_cellOf 55 = .ok (.bipush 47, 2) := by decide +kernel
theorem dX12_cellOf_57 : decode cX12_cellOf 57 = .ok (.if_icmp .le 8, 3) := by decide +kernel
theorem dX12_cellOf_60 : decode cX12_cellOf 60 = .ok (.bipush 47, 2) := by decide +kernel
theorem dX12_cellOf_62 : decode cX12_cellOf 62 = .ok (.goto 5, 3) := by decide +kernel
theorem dX12_cellOf_65 : decode cX12_cellOf 65 = .ok (.iload 4, 2) := by decide +kernel
theorem dX12_cellOf_67 : decode cX12_cellOf 67 = .ok (.ireturn, 1) := by decide +kernel
theorem dX12_least_0 : decode cX12_least 0 = .ok (.iload_n 0, 1) := by decide +kernel
theorem dX12_least_1 : decode cX12_least 1 = .ok (.iload_n 1, 1) := by decide +kernel
theorem dX12_least_2 : decode cX12_least 2 = .ok (.if_icmp .ge 7, 3) := by decide +kernel
theorem dX12_least_5 : decode cX12_least 5 = .ok (.iload_n 0, 1) := by decide +kernel
theorem dX12_least_6 : decode cX12_least 6 = .ok (.goto 4, 3) := by decide +kernel
theorem dX12_least_9 : decode cX12_least 9 = .ok (.iload_n 1, 1) := by decide +kernel
theorem dX12_least_10 : decode cX12_least 10 = .ok (.ireturn, 1) := by decide +kernel
theorem dX12_most_0 : decode cX12_most 0 = .ok (.iload_n 0, 1) := by decide +kernel
theorem dX12_most_1 : decode cX12_most 1 = .ok (.iload_n 1, 1) := by decide +kernel
theorem dX12_most_2 : decode cX12_most 2 = .ok (.if_icmp .le 7, 3) := by decide +kernel
theorem dX12_most_5 : decode cX12_most 5 = .ok (.iload_n 0, 1) := by decide +kernel
theorem dX12_most_6 : decode cX12_most 6 = .ok (.goto 4, 3) := by decide +kernel
theorem dX12_most_9 : decode cX12_most 9 = .ok (.iload_n 1, 1) := by decide +kernel
theorem dX12_most_10 : decode cX12_most 10 = .ok (.ireturn, 1) := by decide +kernel
theorem dX12_countsOf_0 : decode cX12_countsOf 0 = .ok (.aload_n 0, 1) := by decide +kernel
theorem dX12_countsOf_1 : decode cX12_countsOf 1 = .ok (.iload_n 1, 1) := by decide +kernel
theorem dX12_countsOf_2 : decode cX12_countsOf 2 = .ok (.iconst 1, 1) := by decide +kernel
theorem dX12_countsOf_3 : decode cX12_countsOf 3 = .ok (.invokevirtual 98, 3) := by decide +kernel
theorem dX12_countsOf_6 : decode cX12_countsOf 6 = .ok (.istore_n 3, 1) := by decide +kernel
theorem dX12_countsOf_7 : decode cX12_countsOf 7 = .ok (.bipush 9, 2) := by decide +kernel
theorem dX12_countsOf_9 : decode cX12_countsOf 9 = .ok (.iload_n 3, 1) := by decide +kernel
theorem dX12_countsOf_10 : decode cX12_countsOf 10 = .ok (.iconst 2, 1) := by decide +kernel
theorem dX12_countsOf_11 : decode cX12_countsOf 11 = .ok (.iadd, 1) := by decide +kernel
theorem dX12_countsOf_12 : decode cX12_countsOf 12 = .ok (.invokestatic 119, 3) := by decide +kernel
theorem dX12_countsOf_15 : decode cX12_countsOf 15 = .ok (.istore 4, 2) := by decide +kernel
theorem dX12_countsOf_17 : decode cX12_countsOf 17 = .ok (.aload_n 0, 1) := by decide +kernel
theorem dX12_countsOf_18 : decode cX12_countsOf 18 = .ok (.getfield 27, 3) := by decide +kernel
theorem dX12_countsOf_21 : decode cX12_countsOf 21 = .ok (.iload_n 1, 1) := by decide +kernel
theorem dX12_countsOf_22 : decode cX12_countsOf 22 = .ok (.iaload, 1) := by decide +kernel
theorem dX12_countsOf_23 : decode cX12_countsOf 23 = .ok (.iconst 1, 1) := by decide +kernel
theorem dX12_countsOf_24 : decode cX12_countsOf 24 = .ok (.if_icmp .ne 8, 3) := by decide +kernel
theorem dX12_countsOf_27 : decode cX12_countsOf 27 = .ok (.iload 4, 2) := by decide +kernel
theorem dX12_countsOf_29 : decode cX12_countsOf 29 = .ok (.goto 49, 3) := by decide +kernel
theorem dX12_countsOf_32 : decode cX12_countsOf 32 = .ok (.aload_n 0, 1) := by decide +kernel
theorem dX12_countsOf_33 : decode cX12_countsOf 33 = .ok (.getfield 27, 3) := by decide +kernel
theorem dX12_countsOf_36 : decode cX12_countsOf 36 = .ok (.iload_n 1, 1) := by decide +kernel
theorem dX12_countsOf_37 : decode cX12_countsOf 37 = .ok (.iaload, 1) := by decide +kernel
theorem dX12_countsOf_38 : decode cX12_countsOf 38 = .ok (.iconst 3, 1) := by decide +kernel
theorem dX12_countsOf_39 : decode cX12_countsOf 39 = .ok (.if_icmp .ne 14, 3) := by decide +kernel
theorem dX12_countsOf_42 : decode cX12_countsOf 42 = .ok (.iconst 1, 1) := by decide +kernel
theorem dX12_countsOf_43 : decode cX12_countsOf 43 = .ok (.iload 4, 2) := by decide +kernel
theorem dX12_countsOf_45 : decode cX12_countsOf 45 = .ok (.iconst 2, 1) := by decide +kernel
theorem dX12_countsOf_46 : decode cX12_countsOf 46 = .ok (.idiv, 1) := by decide +kernel
theorem dX12_countsOf_47 : decode cX12_countsOf 47 = .ok (.invokestatic 122, 3) := by decide +kernel
theorem dX12_countsOf_50 : decode cX12_countsOf 50 = .ok (.goto 28, 3) := by decide +kernel
theorem dX12_countsOf_53 : decode cX12_countsOf 53 = .ok (.aload_n 0, 1) := by decide +kernel
theorem dX12_countsOf_54 : decode cX12_countsOf 54 = .ok (.getfield 27, 3) := by decide +kernel
theorem dX12_countsOf_57 : decode cX12_countsOf 57 = .ok (.iload_n 1, 1) := by decide +kernel
theorem dX12_countsOf_58 : decode cX12_countsOf 58 = .ok (.iaload, 1) := by decide +kernel
theorem dX12_countsOf_59 : decode cX12_countsOf 59 = .ok (.iconst 4, 1) := by decide +kernel
theorem dX12_countsOf_60 : decode cX12_countsOf 60 = .ok (.if_icmp .ne 17, 3) := by decide +kernel
theorem dX12_countsOf_63 : decode cX12_countsOf 63 = .ok (.bipush 9, 2) := by decide +kernel
theorem dX12_countsOf_65 : decode cX12_countsOf 65 = .ok (.iload_n 3, 1) := by decide +kernel
theorem dX12_countsOf_66 : decode cX12_countsOf 66 = .ok (.iload_n 2, 1) := by decide +kernel
theorem dX12_countsOf_67 : decode cX12_countsOf 67 = .ok (.bipush 15, 2) := by decide +kernel
theorem dX12_countsOf_69 : decode cX12_countsOf 69 = .ok (.idiv, 1) := by decide +kernel
theorem dX12_countsOf_70 : decode cX12_countsOf 70 = .ok (.iadd, 1) := by decide +kernel
theorem dX12_countsOf_71 : decode cX12_countsOf 71 = .ok (.invokestatic 119, 3) := by decide +kernel
theorem dX12_countsOf_74 : decode cX12_countsOf 74 = .ok (.goto 4, 3) := by decide +kernel
theorem dX12_countsOf_77 : decode cX12_countsOf 77 = .ok (.iload_n 3, 1) := by decide +kernel
theorem dX12_countsOf_78 : decode cX12_countsOf 78 = .ok (.ireturn, 1) := by decide +kernel
theorem dX12_isOut_0 : decode cX12_isOut 0 = .ok (.aload_n 0, 1) := by decide +kernel
theorem dX12_isOut_1 : decode cX12_isOut 1 = .ok (.getfield 115, 3) := by decide +kernel
theorem dX12_isOut_4 : decode cX12_isOut 4 = .ok (.iload_n 1, 1) := by decide +kernel
theorem dX12_isOut_5 : decode cX12_isOut 5 = .ok (.ishr, 1) := by decide +kernel
theorem dX12_isOut_6 : decode cX12_isOut 6 = .ok (.iconst 1, 1) := by decide +kernel
theorem dX12_isOut_7 : decode cX12_isOut 7 = .ok (.iand, 1) := by decide +kernel
theorem dX12_isOut_8 : decode cX12_isOut 8 = .ok (.iconst 1, 1) := by decide +kernel
theorem dX12_isOut_9 : decode cX12_isOut 9 = .ok (.if_icmp .ne 33, 3) := by decide +kernel
theorem dX12_isOut_12 : decode cX12_isOut 12 = .ok (.iload_n 2, 1) := by decide +kernel
theorem dX12_isOut_13 : decode cX12_isOut 13 = .ok (.aload_n 0, 1) := by decide +kernel
theorem dX12_isOut_14 : decode cX12_isOut 14 = .ok (.iload_n 1, 1) := by decide +kernel
theorem dX12_isOut_15 : decode cX12_isOut 15 = .ok (.iconst 4, 1) := by decide +kernel
theorem dX12_isOut_16 : decode cX12_isOut 16 = .ok (.invokevirtual 98, 3) := by decide +kernel
theorem dX12_isOut_19 : decode cX12_isOut 19 = .ok (.if_icmp .ge 23, 3) := by decide +kernel
theorem dX12_isOut_22 : decode cX12_isOut 22 = .ok (.aload_n 0, 1) := by decide +kernel
theorem dX12_isOut_23 : decode cX12_isOut 23 = .ok (.getfield 27, 3) := by decide +kernel
theorem dX12_isOut_26 : decode cX12_isOut 26 = .ok (.iload_n 1, 1) := by decide +kernel
theorem dX12_isOut_27 : decode cX12_isOut 27 = .ok (.iaload, 1) := by decide +kernel
theorem dX12_isOut_28 : decode cX12_isOut 28 = .ok (.iconst 5, 1) := by decide +kernel
theorem dX12_isOut_29 : decode cX12_isOut 29 = .ok (.if_icmp .ne 9, 3) := by decide +kernel
theorem dX12_isOut_32 : decode cX12_isOut 32 = .ok (.iload_n 2, 1) := by decide +kernel
theorem dX12_isOut_33 : decode cX12_isOut 33 = .ok (.bipush 20, 2) := by decide +kernel
theorem dX12_isOut_35 : decode cX12_isOut 35 = .ok (.if_icmp .ge 7, 3) := by decide +kernel
theorem dX12_isOut_38 : decode cX12_isOut 38 = .ok (.iconst 1, 1) := by decide +kernel
theorem dX12_isOut_39 : decode cX12_isOut 39 = .ok (.goto 4, 3) := by decide +kernel
theorem dX12_isOut_42 : decode cX12_isOut 42 = .ok (.iconst 0, 1) := by decide +kernel
theorem dX12_isOut_43 : decode cX12_isOut 43 = .ok (.ireturn, 1) := by decide +kernel
theorem dX12_apart_0 : decode cX12_apart 0 = .ok (.iload_n 0, 1) := by decide +kernel
theorem dX12_apart_1 : decode cX12_apart 1 = .ok (.iload_n 1, 1) := by decide +kernel
theorem dX12_apart_2 : decode cX12_apart 2 = .ok (.if_icmp .le 9, 3) := by decide +kernel
theorem dX12_apart_5 : decode cX12_apart 5 = .ok (.iload_n 0, 1) := by decide +kernel
theorem dX12_apart_6 : decode cX12_apart 6 = .ok (.iload_n 1, 1) := by decide +kernel
theorem dX12_apart_7 : decode cX12_apart 7 = .ok (.isub, 1) := by decide +kernel
theorem dX12_apart_8 : decode cX12_apart 8 = .ok (.goto 6, 3) := by decide +kernel
theorem dX12_apart_11 : decode cX12_apart 11 = .ok (.iload_n 1, 1) := by decide +kernel
theorem dX12_apart_12 : decode cX12_apart 12 = .ok (.iload_n 0, 1) := by decide +kernel
theorem dX12_apart_13 : decode cX12_apart 13 = .ok (.isub, 1) := by decide +kernel
theorem dX12_apart_14 : decode cX12_apart 14 = .ok (.ireturn, 1) := by decide +kernel
theorem dX12_isSeen_0 : decode cX12_isSeen 0 = .ok (.aload_n 0, 1) := by decide +kernel
theorem dX12_isSeen_1 : decode cX12_isSeen 1 = .ok (.iload_n 1, 1) := by decide +kernel
theorem dX12_isSeen_2 : decode cX12_isSeen 2 = .ok (.iload_n 3, 1) := by decide +kernel
theorem dX12_isSeen_3 : decode cX12_isSeen 3 = .ok (.invokevirtual 125, 3) := by decide +kernel
theorem dX12_isSeen_6 : decode cX12_isSeen 6 = .ok (.ifCond .eq 26, 3) := by decide +kernel
theorem dX12_isSeen_9 : decode cX12_isSeen 9 = .ok (.aload_n 0, 1) := by decide +kernel
theorem dX12_isSeen_10 : decode cX12_isSeen 10 = .ok (.iload_n 1, 1) := by decide +kernel
theorem dX12_isSeen_11 : decode cX12_isSeen 11 = .ok (.iload_n 3, 1) := by decide +kernel
theorem dX12_isSeen_12 : decode cX12_isSeen 12 = .ok (.invokevirtual 129, 3) := by decide +kernel
theorem dX12_isSeen_15 : decode cX12_isSeen 15 = .ok (.iload_n 2, 1) := by decide +kernel
theorem dX12_isSeen_16 : decode cX12_isSeen 16 = .ok (.invokestatic 132, 3) := by decide +kernel
theorem dX12_isSeen_19 : decode cX12_isSeen 19 = .ok (.aload_n 0, 1) := by decide +kernel
theorem dX12_isSeen_20 : decode cX12_isSeen 20 = .ok (.getfield 7, 3) := by decide +kernel
theorem dX12_isSeen_23 : decode cX12_isSeen 23 = .ok (.iconst 1, 1) := by decide +kernel
theorem dX12_isSeen_24 : decode cX12_isSeen 24 = .ok (.iaload, 1) := by decide +kernel
theorem dX12_isSeen_25 : decode cX12_isSeen 25 = .ok (.if_icmp .gt 7, 3) := by decide +kernel
theorem dX12_isSeen_28 : decode cX12_isSeen 28 = .ok (.iconst 1, 1) := by decide +kernel
theorem dX12_isSeen_29 : decode cX12_isSeen 29 = .ok (.goto 4, 3) := by decide +kernel
theorem dX12_isSeen_32 : decode cX12_isSeen 32 = .ok (.iconst 0, 1) := by decide +kernel
theorem dX12_isSeen_33 : decode cX12_isSeen 33 = .ok (.ireturn, 1) := by decide +kernel
theorem dX12_nearest_0 : decode cX12_nearest 0 = .ok (.iconst (-1), 1) := by decide +kernel
theorem dX12_nearest_1 : decode cX12_nearest 1 = .ok (.istore 4, 2) := by decide +kernel
theorem dX12_nearest_3 : decode cX12_nearest 3 = .ok (.iconst 0, 1) := by decide +kernel
theorem dX12_nearest_4 : decode cX12_nearest 4 = .ok (.istore 5, 2) := by decide +kernel
theorem dX12_nearest_6 : decode cX12_nearest 6 = .ok (.iload 5, 2) := by decide +kernel
theorem dX12_nearest_8 : decode cX12_nearest 8 = .ok (.aload_n 0, 1) := by decide +kernel
theorem dX12_nearest_9 : decode cX12_nearest 9 = .ok (.invokevirtual 61, 3) := by decide +kernel
theorem dX12_nearest_12 : decode cX12_nearest 12 = .ok (.if_icmp .ge 115, 3) := by decide +kernel
theorem dX12_nearest_15 : decode cX12_nearest 15 = .ok (.iload 5, 2) := by decide +kernel
theorem dX12_nearest_17 : decode cX12_nearest 17 = .ok (.iload_n 3, 1) := by decide +kernel
theorem dX12_nearest_18 : decode cX12_nearest 18 = .ok (.if_icmp .eq 103, 3) := by decide +kernel
theorem dX12_nearest_21 : decode cX12_nearest 21 = .ok (.aload_n 0, 1) := by decide +kernel
theorem dX12_nearest_22 : decode cX12_nearest 22 = .ok (.iload 5, 2) := by decide +kernel
theorem dX12_nearest_24 : decode cX12_nearest 24 = .ok (.iload_n 1, 1) := by decide +kernel
theorem dX12_nearest_25 : decode cX12_nearest 25 = .ok (.iload_n 2, 1) := by decide +kernel
theorem dX12_nearest_26 : decode cX12_nearest 26 = .ok (.invokevirtual 135, 3) := by decide +kernel
theorem dX12_nearest_29 : decode cX12_nearest 29 = .ok (.ifCond .eq 92, 3) := by decide +kernel
theorem dX12_nearest_32 : decode cX12_nearest 32 = .ok (.aload_n 0, 1) := by decide +kernel
theorem dX12_nearest_33 : decode cX12_nearest 33 = .ok (.iload 5, 2) := by decide +kernel
theorem dX12_nearest_35 : decode cX12_nearest 35 = .ok (.iload_n 2, 1) := by decide +kernel
theorem dX12_nearest_36 : decode cX12_nearest 36 = .ok (.invokevirtual 129, 3) := by decide +kernel
theorem dX12_nearest_39 : decode cX12_nearest 39 = .ok (.iload_n 1, 1) := by decide +kernel
theorem dX12_nearest_40 : decode cX12_nearest 40 = .ok (.invokestatic 132, 3) := by decide +kernel
theorem dX12_nearest_43 : decode cX12_nearest 43 = .ok (.istore 6, 2) := by decide +kernel
theorem dX12_nearest_45 : decode cX12_nearest 45 = .ok (.iload 4, 2) := by decide +kernel
theorem dX12_nearest_47 : decode cX12_nearest 47 = .ok (.iconst (-1), 1) := by decide +kernel
theorem dX12_nearest_48 : decode cX12_nearest 48 = .ok (.if_icmp .ne 8, 3) := by decide +kernel
theorem dX12_nearest_51 : decode cX12_nearest 51 = .ok (.ldc 139, 2) := by decide +kernel
theorem dX12_nearest_53 : decode cX12_nearest 53 = .ok (.goto 14, 3) := by decide +kernel
theorem dX12_nearest_56 : decode cX12_nearest 56 = .ok (.aload_n 0, 1) := by decide +kernel
theorem dX12_nearest_57 : decode cX12_nearest 57 = .ok (.iload 4, 2) := by decide +kernel
theorem dX12_nearest_59 : decode cX12_nearest 59 = .ok (.iload_n 2, 1) := by decide +kernel
theorem dX12_nearest_60 : decode cX12_nearest 60 = .ok (.invokevirtual 129, 3) := by decide +kernel
theorem dX12_nearest_63 : decode cX12_nearest 63 = .ok (.iload_n 1, 1) := by decide +kernel
theorem dX12_nearest_64 : decode cX12_nearest 64 = .ok (.invokestatic 132, 3) := by decide +kernel
theorem dX12_nearest_67 : decode cX12_nearest 67 = .ok (.istore 7, 2) := by decide +kernel
theorem dX12_nearest_69 : decode cX12_nearest 69 = .ok (.iload 6, 2) := by decide +kernel
theorem dX12_nearest_71 : decode cX12_nearest 71 = .ok (.iload 7, 2) := by decide +kernel
theorem dX12_nearest_73 : decode cX12_nearest 73 = .ok (.if_icmp .lt 27, 3) := by decide +kernel
theorem dX12_nearest_76 : decode cX12_nearest 76 = .ok (.iload 6, 2) := by decide +kernel
theorem dX12_nearest_78 : decode cX12_nearest 78 = .ok (.iload 7, 2) := by decide +kernel
theorem dX12_nearest_80 : decode cX12_nearest 80 = .ok (.if_icmp .ne 24, 3) := by decide +kernel
theorem dX12_nearest_83 : decode cX12_nearest 83 = .ok (.aload_n 0, 1) := by decide +kernel
theorem dX12_nearest_84 : decode cX12_nearest 84 = .ok (.iload 5, 2) := by decide +kernel
theorem dX12_nearest_86 : decode cX12_nearest 86 = .ok (.iload_n 2, 1) := by decide +kernel
theorem dX12_nearest_87 : decode cX12_nearest 87 = .ok (.invokevirtual 140, 3) := by decide +kernel
theorem dX12_nearest_90 : decode cX12_nearest 90 = .ok (.aload_n 0, 1) := by decide +kernel
theorem dX12_nearest_91 : decode cX12_nearest 91 = .ok (.iload 4, 2) := by decide +kernel
theorem dX12_nearest_93 : decode cX12_nearest 93 = .ok (.iload_n 2, 1) := by decide +kernel
theorem dX12_nearest_94 : decode cX12_nearest 94 = .ok (.invokevirtual 140, 3) := by decide +kernel
theorem dX12_nearest_97 : decode cX12_nearest 97 = .ok (.if_icmp .ge 7, 3) := by decide +kernel
theorem dX12_nearest_100 : decode cX12_nearest 100 = .ok (.iconst 1, 1) := by decide +kernel
theorem dX12_nearest_101 : decode cX12_nearest 101 = .ok (.goto 4, 3) := by decide +kernel
theorem dX12_nearest_104 : decode cX12_nearest 104 = .ok (.iconst 0, 1) := by decide +kernel
theorem dX12_nearest_105 : decode cX12_nearest 105 = .ok (.istore 8, 2) := by decide +kernel
theorem dX12_nearest_107 : decode cX12_nearest 107 = .ok (.iload 8, 2) := by decide +kernel
theorem dX12_nearest_109 : decode cX12_nearest 109 = .ok (.ifCond .eq 8, 3) := by decide +kernel
theorem dX12_nearest_112 : decode cX12_nearest 112 = .ok (.iload 5, 2) := by decide +kernel
theorem dX12_nearest_114 : decode cX12_nearest 114 = .ok (.goto 5, 3) := by decide +kernel
theorem dX12_nearest_117 : decode cX12_nearest 117 = .ok (.iload 4, 2) := by decide +kernel
theorem dX12_nearest_119 : decode cX12_nearest 119 = .ok (.istore 4, 2) := by decide +kernel
theorem dX12_nearest_121 : decode cX12_nearest 121 = .ok (.iinc 5 1, 3) := by decide +kernel
theorem dX12_nearest_124 : decode cX12_nearest 124 = .ok (.goto (-118), 3) := by decide +kernel
theorem dX12_nearest_127 : decode cX12_nearest 127 = .ok (.iload 4, 2) := by decide +kernel
theorem dX12_nearest_129 : decode cX12_nearest 129 = .ok (.ireturn, 1) := by decide +kernel
theorem dX12_lowest_0 : decode cX12_lowest 0 = .ok (.bipush 9, 2) := by decide +kernel
theorem dX12_lowest_2 : decode cX12_lowest 2 = .ok (.istore_n 3, 1) := by decide +kernel
theorem dX12_lowest_3 : decode cX12_lowest 3 = .ok (.iconst 0, 1) := by decide +kernel
theorem dX12_lowest_4 : decode cX12_lowest 4 = .ok (.istore 4, 2) := by decide +kernel
theorem dX12_lowest_6 : decode cX12_lowest 6 = .ok (.iload 4, 2) := by decide +kernel
theorem dX12_lowest_8 : decode cX12_lowest 8 = .ok (.aload_n 0, 1) := by decide +kernel
theorem dX12_lowest_9 : decode cX12_lowest 9 = .ok (.invokevirtual 61, 3) := by decide +kernel
theorem dX12_lowest_12 : decode cX12_lowest 12 = .ok (.if_icmp .ge 36, 3) := by decide +kernel
theorem dX12_lowest_15 : decode cX12_lowest 15 = .ok (.aload_n 0, 1) := by decide +kernel
theorem dX12_lowest_16 : decode cX12_lowest 16 = .ok (.iload 4, 2) := by decide +kernel
theorem dX12_lowest_18 : decode cX12_lowest 18 = .ok (.iload_n 1, 1) := by decide +kernel
theorem dX12_lowest_19 : decode cX12_lowest 19 = .ok (.iload_n 2, 1) := by decide +kernel
theorem dX12_lowest_20 : decode cX12_lowest 20 = .ok (.invokevirtual 135, 3) := by decide +kernel
theorem dX12_lowest_23 : decode cX12_lowest 23 = .ok (.ifCond .eq 17, 3) := by decide +kernel
theorem dX12_lowest_26 : decode cX12_lowest 26 = .ok (.iload_n 3, 1) := by decide +kernel
theorem dX12_lowest_27 : decode cX12_lowest 27 = .ok (.aload_n 0, 1) := by decide +kernel
theorem dX12_lowest_28 : decode cX12_lowest 28 = .ok (.iload 4, 2) := by decide +kernel
theorem dX12_lowest_30 : decode cX12_lowest 30 = .ok (.iload_n 2, 1) := by decide +kernel
theorem dX12_lowest_31 : decode cX12_lowest 31 = .ok (.invokevirtual 140, 3) := by decide +kernel
theorem dX12_lowest_34 : decode cX12_lowest 34 = .ok (.invokestatic 119, 3) := by decide +kernel
theorem dX12_lowest_37 : decode cX12_lowest 37 = .ok (.goto 4, 3) := by decide +kernel
theorem dX12_lowest_40 : decode cX12_lowest 40 = .ok (.iload_n 3, 1) := by decide +kernel
theorem dX12_lowest_41 : decode cX12_lowest 41 = .ok (.istore_n 3, 1) := by decide +kernel
theorem dX12_lowest_42 : decode cX12_lowest 42 = .ok (.iinc 4 1, 3) := by decide +kernel
theorem dX12_lowest_45 : decode cX12_lowest 45 = .ok (.goto (-39), 3) := by decide +kernel
theorem dX12_lowest_48 : decode cX12_lowest 48 = .ok (.iload_n 3, 1) := by decide +kernel
theorem dX12_lowest_49 : decode cX12_lowest 49 = .ok (.ireturn, 1) := by decide +kernel
theorem dX12_limitAt_0 : decode cX12_limitAt 0 = .ok (.aload_n 0, 1) := by decide +kernel
theorem dX12_limitAt_1 : decode cX12_limitAt 1 = .ok (.iload_n 1, 1) := by decide +kernel
theorem dX12_limitAt_2 : decode cX12_limitAt 2 = .ok (.iload_n 2, 1) := by decide +kernel
theorem dX12_limitAt_3 : decode cX12_limitAt 3 = .ok (.iconst (-1), 1) := by decide +kernel
theorem dX12_limitAt_4 : decode cX12_limitAt 4 = .ok (.invokevirtual 143, 3) := by decide +kernel
theorem dX12_limitAt_7 : decode cX12_limitAt 7 = .ok (.istore_n 3, 1) := by decide +kernel
theorem dX12_limitAt_8 : decode cX12_limitAt 8 = .ok (.iload_n 3, 1) := by decide +kernel
theorem dX12_limitAt_9 : decode cX12_limitAt 9 = .ok (.iconst (-1), 1) := by decide +kernel
theorem dX12_limitAt_10 : decode cX12_limitAt 10 = .ok (.if_icmp .ne 6, 3) := by decide +kernel
theorem dX12_limitAt_13 : decode cX12_limitAt 13 = .ok (.bipush 9, 2) := by decide +kernel
theorem dX12_limitAt_15 : decode cX12_limitAt 15 = .ok (.ireturn, 1) := by decide +kernel
theorem dX12_limitAt_16 : decode cX12_limitAt 16 = .ok (.aload_n 0, 1) := by decide +kernel
theorem dX12_limitAt_17 : decode cX12_limitAt 17 = .ok (.getfield 7, 3) := by decide +kernel
theorem dX12_limitAt_20 : decode cX12_limitAt 20 = .ok (.iconst 2, 1) := by decide +kernel
theorem dX12_limitAt_21 : decode cX12_limitAt 21 = .ok (.iaload, 1) := by decide +kernel
theorem dX12_limitAt_22 : decode cX12_limitAt 22 = .ok (.iconst 1, 1) := by decide +kernel
theorem dX12_limitAt_23 : decode cX12_limitAt 23 = .ok (.if_icmp .ne 10, 3) := by decide +kernel
theorem dX12_limitAt_26 : decode cX12_limitAt 26 = .ok (.aload_n 0, 1) := by decide +kernel
theorem dX12_limitAt_27 : decode cX12_limitAt 27 = .ok (.iload_n 1, 1) := by decide +kernel
theorem dX12_limitAt_28 : decode cX12_limitAt 28 = .ok (.iload_n 2, 1) := by decide +kernel
theorem dX12_limitAt_29 : decode cX12_limitAt 29 = .ok (.invokevirtual 146, 3) := by decide +kernel
theorem dX12_limitAt_32 : decode cX12_limitAt 32 = .ok (.ireturn, 1) := by decide +kernel
theorem dX12_limitAt_33 : decode cX12_limitAt 33 = .ok (.aload_n 0, 1) := by decide +kernel
theorem dX12_limitAt_34 : decode cX12_limitAt 34 = .ok (.getfield 7, 3) := by decide +kernel
theorem dX12_limitAt_37 : decode cX12_limitAt 37 = .ok (.iconst 2, 1) := by decide +kernel
theorem dX12_limitAt_38 : decode cX12_limitAt 38 = .ok (.iaload, 1) := by decide +kernel
theorem dX12_limitAt_39 : decode cX12_limitAt 39 = .ok (.iconst 2, 1) := by decide +kernel
theorem dX12_limitAt_40 : decode cX12_limitAt 40 = .ok (.if_icmp .ne 13, 3) := by decide +kernel
theorem dX12_limitAt_43 : decode cX12_limitAt 43 = .ok (.aload_n 0, 1) := by decide +kernel
theorem dX12_limitAt_44 : decode cX12_limitAt 44 = .ok (.iload_n 1, 1) := by decide +kernel
theorem dX12_limitAt_45 : decode cX12_limitAt 45 = .ok (.iload_n 2, 1) := by decide +kernel
theorem dX12_limitAt_46 : decode cX12_limitAt 46 = .ok (.iload_n 3, 1) := by decide +kernel
theorem dX12_limitAt_47 : decode cX12_limitAt 47 = .ok (.invokevirtual 143, 3) := by decide +kernel
theorem dX12_limitAt_50 : decode cX12_limitAt 50 = .ok (.goto 4, 3) := by decide +kernel
theorem dX12_limitAt_53 : decode cX12_limitAt 53 = .ok (.iconst (-1), 1) := by decide +kernel
theorem dX12_limitAt_54 : decode cX12_limitAt 54 = .ok (.istore 4, 2) := by decide +kernel
theorem dX12_limitAt_56 : decode cX12_limitAt 56 = .ok (.aload_n 0, 1) := by decide +kernel
theorem dX12_limitAt_57 : decode cX12_limitAt 57 = .ok (.iload_n 3, 1) := by decide +kernel
theorem dX12_limitAt_58 : decode cX12_limitAt 58 = .ok (.iload_n 2, 1) := by decide +kernel
theorem dX12_limitAt_59 : decode cX12_limitAt 59 = .ok (.invokevirtual 140, 3) := by decide +kernel
theorem dX12_limitAt_62 : decode cX12_limitAt 62 = .ok (.istore 5, 2) := by decide +kernel
theorem dX12_limitAt_64 : decode cX12_limitAt 64 = .ok (.iload 4, 2) := by decide +kernel
theorem dX12_limitAt_66 : decode cX12_limitAt 66 = .ok (.iconst (-1), 1) := by decide +kernel
theorem dX12_limitAt_67 : decode cX12_limitAt 67 = .ok (.if_icmp .ne 8, 3) := by decide +kernel
theorem dX12_limitAt_70 : decode cX12_limitAt 70 = .ok (.iload 5, 2) := by decide +kernel
theorem dX12_limitAt_72 : decode cX12_limitAt 72 = .ok (.goto 15, 3) := by decide +kernel
theorem dX12_limitAt_75 : decode cX12_limitAt 75 = .ok (.iload 5, 2) := by decide +kernel
theorem dX12_limitAt_77 : decode cX12_limitAt 77 = .ok (.aload_n 0, 1) := by decide +kernel
theorem dX12_limitAt_78 : decode cX12_limitAt 78 = .ok (.iload 4, 2) := by decide +kernel
theorem dX12_limitAt_80 : decode cX12_limitAt 80 = .ok (.iload_n 2, 1) := by decide +kernel
theorem dX12_limitAt_81 : decode cX12_limitAt 81 = .ok (.invokevirtual 140, 3) := by decide +kernel
theorem dX12_limitAt_84 : decode cX12_limitAt 84 = .ok (.iadd, 1) := by decide +kernel
theorem dX12_limitAt_85 : decode cX12_limitAt 85 = .ok (.iconst 2, 1) := by decide +kernel
theorem dX12_limitAt_86 : decode cX12_limitAt 86 = .ok (.idiv, 1) := by decide +kernel
theorem dX12_limitAt_87 : decode cX12_limitAt 87 = .ok (.ireturn, 1) := by decide +kernel
theorem dX12_of_0 : decode cX12_of 0 = .ok (.aload_n 0, 1) := by decide +kernel
theorem dX12_of_1 : decode cX12_of 1 = .ok (.iload_n 1, 1) := by decide +kernel
theorem dX12_of_2 : decode cX12_of 2 = .ok (.invokevirtual 105, 3) := by decide +kernel
theorem dX12_of_5 : decode cX12_of 5 = .ok (.ifCond .eq 22, 3) := by decide +kernel
theorem dX12_of_8 : decode cX12_of 8 = .ok (.iload_n 2, 1) := by decide +kernel
theorem dX12_of_9 : decode cX12_of 9 = .ok (.invokestatic 149, 3) := by decide +kernel
theorem dX12_of_12 : decode cX12_of 12 = .ok (.ifCond .eq 15, 3) := by decide +kernel
theorem dX12_of_15 : decode cX12_of 15 = .ok (.iload_n 3, 1) := by decide +kernel
theorem dX12_of_16 : decode cX12_of 16 = .ok (.i2l, 1) := by decide +kernel
theorem dX12_of_17 : decode cX12_of 17 = .ok (.lconst 0, 1) := by decide +kernel
theorem dX12_of_18 : decode cX12_of 18 = .ok (.ldc2_w 79, 3) := by decide +kernel
theorem dX12_of_21 : decode cX12_of 21 = .ok (.invokestatic 65, 3) := by decide +kernel
theorem dX12_of_24 : decode cX12_of 24 = .ok (.ifCond .ne 10, 3) := by decide +kernel
theorem dX12_of_27 : decode cX12_of 27 = .ok (.aload_n 0, 1) := by decide +kernel
theorem dX12_of_28 : decode cX12_of 28 = .ok (.bipush (-2), 2) := by decide +kernel
theorem dX12_of_30 : decode cX12_of 30 = .ok (.invokevirtual 75, 3) := by decide +kernel
theorem dX12_of_33 : decode cX12_of 33 = .ok (.ireturn, 1) := by decide +kernel
theorem dX12_of_34 : decode cX12_of 34 = .ok (.aload_n 0, 1) := by decide +kernel
theorem dX12_of_35 : decode cX12_of 35 = .ok (.aload_n 0, 1) := by decide +kernel
theorem dX12_of_36 : decode cX12_of 36 = .ok (.invokevirtual 152, 3) := by decide +kernel
theorem dX12_of_39 : decode cX12_of 39 = .ok (.invokevirtual 155, 3) := by decide +kernel
theorem dX12_of_42 : decode cX12_of 42 = .ok (.iload_n 3, 1) := by decide +kernel
theorem dX12_of_43 : decode cX12_of 43 = .ok (.tableswitch 70 2 5 #[29, 36, 56, 63], 29) := by decide +kernel
theorem dX12_of_72 : decode cX12_of 72 = .ok (.aload_n 0, 1) := by decide +kernel
theorem dX12_of_73 : decode cX12_of 73 = .ok (.iload_n 1, 1) := by decide +kernel
theorem dX12_of_74 : decode cX12_of 74 = .ok (.iload_n 2, 1) := by decide +kernel
theorem dX12_of_75 : decode cX12_of 75 = .ok (.invokevirtual 129, 3) := by decide +kernel
theorem dX12_of_78 : decode cX12_of 78 = .ok (.ireturn, 1) := by decide +kernel
theorem dX12_of_79 : decode cX12_of 79 = .ok (.aload_n 0, 1) := by decide +kernel
theorem dX12_of_80 : decode cX12_of 80 = .ok (.iload_n 1, 1) := by decide +kernel
theorem dX12_of_81 : decode cX12_of 81 = .ok (.iload_n 2, 1) := by decide +kernel
theorem dX12_of_82 : decode cX12_of 82 = .ok (.invokevirtual 125, 3) := by decide +kernel
theorem dX12_of_85 : decode cX12_of 85 = .ok (.ifCond .eq 12, 3) := by decide +kernel
theorem dX12_of_88 : decode cX12_of 88 = .ok (.aload_n 0, 1) := by decide +kernel
theorem dX12_of_89 : decode cX12_of 89 = .ok (.iload_n 1, 1) := by decide +kernel
theorem dX12_of_90 : decode cX12_of 90 = .ok (.iload_n 2, 1) := by decide +kernel
theorem dX12_of_91 : decode cX12_of 91 = .ok (.invokevirtual 140, 3) := by decide +kernel
theorem dX12_of_94 : decode cX12_of 94 = .ok (.goto 4, 3) := by decide +kernel
theorem dX12_of_97 : decode cX12_of 97 = .ok (.iconst 0, 1) := by decide +kernel
theorem dX12_of_98 : decode cX12_of 98 = .ok (.ireturn, 1) := by decide +kernel
theorem dX12_of_99 : decode cX12_of 99 = .ok (.aload_n 0, 1) := by decide +kernel
theorem dX12_of_100 : decode cX12_of 100 = .ok (.iload_n 1, 1) := by decide +kernel
theorem dX12_of_101 : decode cX12_of 101 = .ok (.iconst 3, 1) := by decide +kernel
theorem dX12_of_102 : decode cX12_of 102 = .ok (.invokevirtual 98, 3) := by decide +kernel
theorem dX12_of_105 : decode cX12_of 105 = .ok (.ireturn, 1) := by decide +kernel
theorem dX12_of_106 : decode cX12_of 106 = .ok (.aload_n 0, 1) := by decide +kernel
theorem dX12_of_107 : decode cX12_of 107 = .ok (.iload_n 1, 1) := by decide +kernel
theorem dX12_of_108 : decode cX12_of 108 = .ok (.iconst 4, 1) := by decide +kernel
theorem dX12_of_109 : decode cX12_of 109 = .ok (.invokevirtual 98, 3) := by decide +kernel
theorem dX12_of_112 : decode cX12_of 112 = .ok (.ireturn, 1) := by decide +kernel
theorem dX12_of_113 : decode cX12_of 113 = .ok (.aload_n 0, 1) := by decide +kernel
theorem dX12_of_114 : decode cX12_of 114 = .ok (.iload_n 1, 1) := by decide +kernel
theorem dX12_of_115 : decode cX12_of 115 = .ok (.iload_n 3, 1) := by decide +kernel
theorem dX12_of_116 : decode cX12_of 116 = .ok (.invokevirtual 98, 3) := by decide +kernel
theorem dX12_of_119 : decode cX12_of 119 = .ok (.ireturn, 1) := by decide +kernel
theorem dX12_limit_0 : decode cX12_limit 0 = .ok (.iload_n 1, 1) := by decide +kernel
theorem dX12_limit_1 : decode cX12_limit 1 = .ok (.invokestatic 83, 3) := by decide +kernel
theorem dX12_limit_4 : decode cX12_limit 4 = .ok (.ifCond .eq 20, 3) := by decide +kernel
theorem dX12_limit_7 : decode cX12_limit 7 = .ok (.iload_n 2, 1) := by decide +kernel
theorem dX12_limit_8 : decode cX12_limit 8 = .ok (.invokestatic 149, 3) := by decide +kernel
theorem dX12_limit_11 : decode cX12_limit 11 = .ok (.ifCond .eq 13, 3) := by decide +kernel
theorem dX12_limit_14 : decode cX12_limit 14 = .ok (.iload_n 3, 1) := by decide +kernel
theorem dX12_limit_15 : decode cX12_limit 15 = .ok (.i2l, 1) := by decide +kernel
theorem dX12_limit_16 : decode cX12_limit 16 = .ok (.lconst 0, 1) := by decide +kernel
theorem dX12_limit_17 : decode cX12_limit 17 = .ok (.lconst 1, 1) := by decide +kernel
theorem dX12_limit_18 : decode cX12_limit 18 = .ok (.invokestatic 65, 3) := by decide +kernel
theorem dX12_limit_21 : decode cX12_limit 21 = .ok (.ifCond .ne 10, 3) := by decide +kernel
theorem dX12_limit_24 : decode cX12_limit 24 = .ok (.aload_n 0, 1) := by decide +kernel
theorem dX12_limit_25 : decode cX12_limit 25 = .ok (.bipush (-10), 2) := by decide +kernel
theorem dX12_limit_27 : decode cX12_limit 27 = .ok (.invokevirtual 75, 3) := by decide +kernel
theorem dX12_limit_30 : decode cX12_limit 30 = .ok (.ireturn, 1) := by decide +kernel
theorem dX12_limit_31 : decode cX12_limit 31 = .ok (.aload_n 0, 1) := by decide +kernel
theorem dX12_limit_32 : decode cX12_limit 32 = .ok (.aload_n 0, 1) := by decide +kernel
theorem dX12_limit_33 : decode cX12_limit 33 = .ok (.invokevirtual 152, 3) := by decide +kernel
theorem dX12_limit_36 : decode cX12_limit 36 = .ok (.invokevirtual 155, 3) := by decide +kernel
theorem dX12_limit_39 : decode cX12_limit 39 = .ok (.iload_n 3, 1) := by decide +kernel
theorem dX12_limit_40 : decode cX12_limit 40 = .ok (.ifCond .ne 12, 3) := by decide +kernel
theorem dX12_limit_43 : decode cX12_limit 43 = .ok (.aload_n 0, 1) := by decide +kernel
theorem dX12_limit_44 : decode cX12_limit 44 = .ok (.iload_n 1, 1) := by decide +kernel
theorem dX12_limit_45 : decode cX12_limit 45 = .ok (.iload_n 2, 1) := by decide +kernel
theorem dX12_limit_46 : decode cX12_limit 46 = .ok (.invokevirtual 159, 3) := by decide +kernel
theorem dX12_limit_49 : decode cX12_limit 49 = .ok (.goto 10, 3) := by decide +kernel
theorem dX12_limit_52 : decode cX12_limit 52 = .ok (.aload_n 0, 1) := by decide +kernel
theorem dX12_limit_53 : decode cX12_limit 53 = .ok (.iload_n 1, 1) := by decide +kernel
theorem dX12_limit_54 : decode cX12_limit 54 = .ok (.iload_n 2, 1) := by decide +kernel
theorem dX12_limit_55 : decode cX12_limit 55 = .ok (.iconst (-1), 1) := by decide +kernel
theorem dX12_limit_56 : decode cX12_limit 56 = .ok (.invokevirtual 143, 3) := by decide +kernel
theorem dX12_limit_59 : decode cX12_limit 59 = .ok (.ireturn, 1) := by decide +kernel
theorem dX12_whereAt_0 : decode cX12_whereAt 0 = .ok (.iconst 0, 1) := by decide +kernel
theorem dX12_whereAt_1 : decode cX12_whereAt 1 = .ok (.istore_n 3, 1) := by decide +kernel
theorem dX12_whereAt_2 : decode cX12_whereAt 2 = .ok (.iload_n 1, 1) := by decide +kernel
theorem dX12_whereAt_3 : decode cX12_whereAt 3 = .ok (.istore 4, 2) := by decide +kernel
theorem dX12_whereAt_5 : decode cX12_whereAt 5 = .ok (.iload 4, 2) := by decide +kernel
theorem dX12_whereAt_7 : decode cX12_whereAt 7 = .ok (.iload_n 2, 1) := by decide +kernel
theorem dX12_whereAt_8 : decode cX12_whereAt 8 = .ok (.if_icmp .ge 24, 3) := by decide +kernel
theorem dX12_whereAt_11 : decode cX12_whereAt 11 = .ok (.bipush 47, 2) := by decide +kernel
theorem dX12_whereAt_13 : decode cX12_whereAt 13 = .ok (.iload_n 3, 1) := by decide +kernel
theorem dX12_whereAt_14 : decode cX12_whereAt 14 = .ok (.aload_n 0, 1) := by decide +kernel
theorem dX12_whereAt_15 : decode cX12_whereAt 15 = .ok (.iload_n 3, 1) := by decide +kernel
theorem dX12_whereAt_16 : decode cX12_whereAt 16 = .ok (.iload 4, 2) := by decide +kernel
theorem dX12_whereAt_18 : decode cX12_whereAt 18 = .ok (.invokevirtual 159, 3) := by decide +kernel
theorem dX12_whereAt_21 : decode cX12_whereAt 21 = .ok (.iadd, 1) := by decide +kernel
theorem dX12_whereAt_22 : decode cX12_whereAt 22 = .ok (.invokestatic 119, 3) := by decide +kernel
theorem dX12_whereAt_25 : decode cX12_whereAt 25 = .ok (.istore_n 3, 1) := by decide +kernel
theorem dX12_whereAt_26 : decode cX12_whereAt 26 = .ok (.iinc 4 1, 3) := by decide +kernel
theorem dX12_whereAt_29 : decode cX12_whereAt 29 = .ok (.goto (-24), 3) := by decide +kernel
theorem dX12_whereAt_32 : decode cX12_whereAt 32 = .ok (.iload_n 3, 1) := by decide +kernel
theorem dX12_whereAt_33 : decode cX12_whereAt 33 = .ok (.ireturn, 1) := by decide +kernel
theorem dX12_thereFrom_0 : decode cX12_thereFrom 0 = .ok (.iconst 0, 1) := by decide +kernel
theorem dX12_thereFrom_1 : decode cX12_thereFrom 1 = .ok (.istore_n 2, 1) := by decide +kernel
theorem dX12_thereFrom_2 : decode cX12_thereFrom 2 = .ok (.iload_n 1, 1) := by decide +kernel
theorem dX12_thereFrom_3 : decode cX12_thereFrom 3 = .ok (.istore_n 3, 1) := by decide +kernel
theorem dX12_thereFrom_4 : decode cX12_thereFrom 4 = .ok (.iload_n 3, 1) := by decide +kernel
theorem dX12_thereFrom_5 : decode cX12_thereFrom 5 = .ok (.bipush 60, 2) := by decide +kernel
theorem dX12_thereFrom_7 : decode cX12_thereFrom 7 = .ok (.if_icmp .ge 33, 3) := by decide +kernel
theorem dX12_thereFrom_10 : decode cX12_thereFrom 10 = .ok (.bipush 47, 2) := by decide +kernel
theorem dX12_thereFrom_12 : decode cX12_thereFrom 12 = .ok (.iload_n 2, 1) := by decide +kernel
theorem dX12_thereFrom_13 : decode cX12_thereFrom 13 = .ok (.aload_n 0, 1) := by decide +kernel
theorem dX12_thereFrom_14 : decode cX12_thereFrom 14 = .ok (.iload_n 2, 1) := by decide +kernel
theorem dX12_thereFrom_15 : decode cX12_thereFrom 15 = .ok (.iload_n 3, 1) := by decide +kernel
theorem dX12_thereFrom_16 : decode cX12_thereFrom 16 = .ok (.invokevirtual 159, 3) := by decide +kernel
theorem dX12_thereFrom_19 : decode cX12_thereFrom 19 = .ok (.iadd, 1) := by decide +kernel
theorem dX12_thereFrom_20 : decode cX12_thereFrom 20 = .ok (.invokestatic 119, 3) := by decide +kernel
theorem dX12_thereFrom_23 : decode cX12_thereFrom 23 = .ok (.istore_n 2, 1) := by decide +kernel
theorem dX12_thereFrom_24 : decode cX12_thereFrom 24 = .ok (.iload_n 2, 1) := by decide +kernel
theorem dX12_thereFrom_25 : decode cX12_thereFrom 25 = .ok (.bipush 47, 2) := by decide +kernel
theorem dX12_thereFrom_27 : decode cX12_thereFrom 27 = .ok (.if_icmp .ne 7, 3) := by decide +kernel
theorem dX12_thereFrom_30 : decode cX12_thereFrom 30 = .ok (.iload_n 3, 1) := by decide +kernel
theorem dX12_thereFrom_31 : decode cX12_thereFrom 31 = .ok (.iconst 1, 1) := by decide +kernel
theorem dX12_thereFrom_32 : decode cX12_thereFrom 32 = .ok (.iadd, 1) := by decide +kernel
theorem dX12_thereFrom_33 : decode cX12_thereFrom 33 = .ok (.ireturn, 1) := by decide +kernel
theorem dX12_thereFrom_34 : decode cX12_thereFrom 34 = .ok (.iinc 3 1, 3) := by decide +kernel
theorem dX12_thereFrom_37 : decode cX12_thereFrom 37 = .ok (.goto (-33), 3) := by decide +kernel
theorem dX12_thereFrom_40 : decode cX12_thereFrom 40 = .ok (.bipush 61, 2) := by decide +kernel
theorem dX12_thereFrom_42 : decode cX12_thereFrom 42 = .ok (.ireturn, 1) := by decide +kernel
theorem dX12_orNone_0 : decode cX12_orNone 0 = .ok (.iload_n 0, 1) := by decide +kernel
theorem dX12_orNone_1 : decode cX12_orNone 1 = .ok (.bipush 61, 2) := by decide +kernel
theorem dX12_orNone_3 : decode cX12_orNone 3 = .ok (.if_icmp .ne 7, 3) := by decide +kernel
theorem dX12_orNone_6 : decode cX12_orNone 6 = .ok (.iconst (-1), 1) := by decide +kernel
theorem dX12_orNone_7 : decode cX12_orNone 7 = .ok (.goto 4, 3) := by decide +kernel
theorem dX12_orNone_10 : decode cX12_orNone 10 = .ok (.iload_n 0, 1) := by decide +kernel
theorem dX12_orNone_11 : decode cX12_orNone 11 = .ok (.ireturn, 1) := by decide +kernel
theorem dX12_where_0 : decode cX12_where 0 = .ok (.iload_n 1, 1) := by decide +kernel
theorem dX12_where_1 : decode cX12_where 1 = .ok (.invokestatic 149, 3) := by decide +kernel
theorem dX12_where_4 : decode cX12_where 4 = .ok (.ifCond .eq 15, 3) := by decide +kernel
theorem dX12_where_7 : decode cX12_where 7 = .ok (.iload_n 2, 1) := by decide +kernel
theorem dX12_where_8 : decode cX12_where 8 = .ok (.i2l, 1) := by decide +kernel
theorem dX12_where_9 : decode cX12_where 9 = .ok (.lconst 0, 1) := by decide +kernel
theorem dX12_where_10 : decode cX12_where 10 = .ok (.ldc2_w 89, 3) := by decide +kernel
theorem dX12_where_13 : decode cX12_where 13 = .ok (.invokestatic 65, 3) := by decide +kernel
theorem dX12_where_16 : decode cX12_where 16 = .ok (.ifCond .ne 10, 3) := by decide +kernel
theorem dX12_where_19 : decode cX12_where 19 = .ok (.aload_n 0, 1) := by decide +kernel
theorem dX12_where_20 : decode cX12_where 20 = .ok (.bipush (-2), 2) := by decide +kernel
theorem dX12_where_22 : decode cX12_where 22 = .ok (.invokevirtual 75, 3) := by decide +kernel
theorem dX12_where_25 : decode cX12_where 25 = .ok (.ireturn, 1) := by decide +kernel
theorem dX12_where_26 : decode cX12_where 26 = .ok (.aload_n 0, 1) := by decide +kernel
theorem dX12_where_27 : decode cX12_where 27 = .ok (.aload_n 0, 1) := by decide +kernel
theorem dX12_where_28 : decode cX12_where 28 = .ok (.invokevirtual 152, 3) := by decide +kernel
theorem dX12_where_31 : decode cX12_where 31 = .ok (.invokevirtual 155, 3) := by decide +kernel
theorem dX12_where_34 : decode cX12_where 34 = .ok (.iload_n 2, 1) := by decide +kernel
theorem dX12_where_35 : decode cX12_where 35 = .ok (.iload_n 1, 1) := by decide +kernel
theorem dX12_where_36 : decode cX12_where 36 = .ok (.if_icmp .ge 7, 3) := by decide +kernel
theorem dX12_where_39 : decode cX12_where 39 = .ok (.iconst (-1), 1) := by decide +kernel
theorem dX12_where_40 : decode cX12_where 40 = .ok (.goto 9, 3) := by decide +kernel
theorem dX12_where_43 : decode cX12_where 43 = .ok (.aload_n 0, 1) := by decide +kernel
theorem dX12_where_44 : decode cX12_where 44 = .ok (.iload_n 1, 1) := by decide +kernel
theorem dX12_where_45 : decode cX12_where 45 = .ok (.iload_n 2, 1) := by decide +kernel
theorem dX12_where_46 : decode cX12_where 46 = .ok (.invokevirtual 162, 3) := by decide +kernel
theorem dX12_where_49 : decode cX12_where 49 = .ok (.ireturn, 1) := by decide +kernel
theorem dX12_there_0 : decode cX12_there 0 = .ok (.iload_n 1, 1) := by decide +kernel
theorem dX12_there_1 : decode cX12_there 1 = .ok (.invokestatic 149, 3) := by decide +kernel
theorem dX12_there_4 : decode cX12_there 4 = .ok (.ifCond .ne 10, 3) := by decide +kernel
theorem dX12_there_7 : decode cX12_there 7 = .ok (.aload_n 0, 1) := by decide +kernel
theorem dX12_there_8 : decode cX12_there 8 = .ok (.bipush (-2), 2) := by decide +kernel
theorem dX12_there_10 : decode cX12_there 10 = .ok (.invokevirtual 75, 3) := by decide +kernel
theorem dX12_there_13 : decode cX12_there 13 = .ok (.ireturn, 1) := by decide +kernel
theorem dX12_there_14 : decode cX12_there 14 = .ok (.aload_n 0, 1) := by decide +kernel
theorem dX12_there_15 : decode cX12_there 15 = .ok (.aload_n 0, 1) := by decide +kernel
theorem dX12_there_16 : decode cX12_there 16 = .ok (.invokevirtual 152, 3) := by decide +kernel
theorem dX12_there_19 : decode cX12_there 19 = .ok (.invokevirtual 155, 3) := by decide +kernel
theorem dX12_there_22 : decode cX12_there 22 = .ok (.aload_n 0, 1) := by decide +kernel
theorem dX12_there_23 : decode cX12_there 23 = .ok (.iload_n 1, 1) := by decide +kernel
theorem dX12_there_24 : decode cX12_there 24 = .ok (.invokevirtual 165, 3) := by decide +kernel
theorem dX12_there_27 : decode cX12_there 27 = .ok (.invokestatic 168, 3) := by decide +kernel
theorem dX12_there_30 : decode cX12_there 30 = .ok (.ireturn, 1) := by decide +kernel
theorem dX12_goOn_0 : decode cX12_goOn 0 = .ok (.iconst 0, 1) := by decide +kernel
theorem dX12_goOn_1 : decode cX12_goOn 1 = .ok (.istore_n 2, 1) := by decide +kernel
theorem dX12_goOn_2 : decode cX12_goOn 2 = .ok (.iload_n 2, 1) := by decide +kernel
theorem dX12_goOn_3 : decode cX12_goOn 3 = .ok (.bipush 47, 2) := by decide +kernel
theorem dX12_goOn_5 : decode cX12_goOn 5 = .ok (.if_icmp .gt 16, 3) := by decide +kernel
theorem dX12_goOn_8 : decode cX12_goOn 8 = .ok (.aload_n 0, 1) := by decide +kernel
theorem dX12_goOn_9 : decode cX12_goOn 9 = .ok (.getfield 36, 3) := by decide +kernel
theorem dX12_goOn_12 : decode cX12_goOn 12 = .ok (.iload_n 2, 1) := by decide +kernel
theorem dX12_goOn_13 : decode cX12_goOn 13 = .ok (.iconst 0, 1) := by decide +kernel
theorem dX12_goOn_14 : decode cX12_goOn 14 = .ok (.bastore, 1) := by decide +kernel
theorem dX12_goOn_15 : decode cX12_goOn 15 = .ok (.iinc 2 1, 3) := by decide +kernel
theorem dX12_goOn_18 : decode cX12_goOn 18 = .ok (.goto (-16), 3) := by decide +kernel
theorem dX12_goOn_21 : decode cX12_goOn 21 = .ok (.iconst 0, 1) := by decide +kernel
theorem dX12_goOn_22 : decode cX12_goOn 22 = .ok (.istore_n 2, 1) := by decide +kernel
theorem dX12_goOn_23 : decode cX12_goOn 23 = .ok (.iload_n 2, 1) := by decide +kernel
theorem dX12_goOn_24 : decode cX12_goOn 24 = .ok (.bipush 47, 2) := by decide +kernel
theorem dX12_goOn_26 : decode cX12_goOn 26 = .ok (.if_icmp .gt 59, 3) := by decide +kernel
theorem dX12_goOn_29 : decode cX12_goOn 29 = .ok (.aload_n 0, 1) := by decide +kernel
theorem dX12_goOn_30 : decode cX12_goOn 30 = .ok (.getfield 33, 3) := by decide +kernel
theorem dX12_goOn_33 : decode cX12_goOn 33 = .ok (.iload_n 2, 1) := by decide +kernel
theorem dX12_goOn_34 : decode cX12_goOn 34 = .ok (.baload, 1) := by decide +kernel
theorem dX12_goOn_35 : decode cX12_goOn 35 = .ok (.ifCond .eq 19, 3) := by decide +kernel
theorem dX12_goOn_38 : decode cX12_goOn 38 = .ok (.bipush 47, 2) := by decide +kernel
theorem dX12_goOn_40 : decode cX12_goOn 40 = .ok (.iload_n 2, 1) := by decide +kernel
theorem dX12_goOn_41 : decode cX12_goOn 41 = .ok (.aload_n 0, 1) := by decide +kernel
theorem dX12_goOn_42 : decode cX12_goOn 42 = .ok (.iload_n 2, 1) := by decide +kernel
theorem dX12_goOn_43 : decode cX12_goOn 43 = .ok (.iload_n 1, 1) := by decide +kernel
theorem dX12_goOn_44 : decode cX12_goOn 44 = .ok (.invokevirtual 159, 3) := by decide +kernel
theorem dX12_goOn_47 : decode cX12_goOn 47 = .ok (.iadd, 1) := by decide +kernel
theorem dX12_goOn_48 : decode cX12_goOn 48 = .ok (.invokestatic 119, 3) := by decide +kernel
theorem dX12_goOn_51 : decode cX12_goOn 51 = .ok (.goto 4, 3) := by decide +kernel
theorem dX12_goOn_54 : decode cX12_goOn 54 = .ok (.iconst (-1), 1) := by decide +kernel
theorem dX12_goOn_55 : decode cX12_goOn 55 = .ok (.istore_n 3, 1) := by decide +kernel
theorem dX12_goOn_56 : decode cX12_goOn 56 = .ok (.iload_n 2, 1) := by decide +kernel
theorem dX12_goOn_57 : decode cX12_goOn 57 = .ok (.istore 4, 2) := by decide +kernel
theorem dX12_goOn_59 : decode cX12_goOn 59 = .ok (.iload 4, 2) := by decide +kernel
theorem dX12_goOn_61 : decode cX12_goOn 61 = .ok (.iload_n 3, 1) := by decide +kernel
theorem dX12_goOn_62 : decode cX12_goOn 62 = .ok (.if_icmp .gt 17, 3) := by decide +kernel
theorem dX12_goOn_65 : decode cX12_goOn 65 = .ok (.aload_n 0, 1) := by decide +kernel
theorem dX12_goOn_66 : decode cX12_goOn 66 = .ok (.getfield 36, 3) := by decide +kernel
theorem dX12_goOn_69 : decode cX12_goOn 69 = .ok (.iload 4, 2) := by decide +kernel
theorem dX12_goOn_71 : decode cX12_goOn 71 = .ok (.iconst 1, 1) := by decide +kernel
theorem dX12_goOn_72 : decode cX12_goOn 72 = .ok (.bastore, 1) := by decide +kernel
theorem dX12_goOn_73 : decode cX12_goOn 73 = .ok (.iinc 4 1, 3) := by decide +kernel
theorem dX12_goOn_76 : decode cX12_goOn 76 = .ok (.goto (-17), 3) := by decide +kernel
theorem dX12_goOn_79 : decode cX12_goOn 79 = .ok (.iinc 2 1, 3) := by decide +kernel
theorem dX12_goOn_82 : decode cX12_goOn 82 = .ok (.goto (-59), 3) := by decide +kernel
theorem dX12_goOn_85 : decode cX12_goOn 85 = .ok (.iconst 0, 1) := by decide +kernel
theorem dX12_goOn_86 : decode cX12_goOn 86 = .ok (.istore_n 2, 1) := by decide +kernel
theorem dX12_goOn_87 : decode cX12_goOn 87 = .ok (.iload_n 2, 1) := by decide +kernel
theorem dX12_goOn_88 : decode cX12_goOn 88 = .ok (.bipush 47, 2) := by decide +kernel
theorem dX12_goOn_90 : decode cX12_goOn 90 = .ok (.if_icmp .gt 21, 3) := by decide +kernel
theorem dX12_goOn_93 : decode cX12_goOn 93 = .ok (.aload_n 0, 1) := by decide +kernel
theorem dX12_goOn_94 : decode cX12_goOn 94 = .ok (.getfield 33, 3) := by decide +kernel
theorem dX12_goOn_97 : decode cX12_goOn 97 = .ok (.iload_n 2, 1) := by decide +kernel
theorem dX12_goOn_98 : decode cX12_goOn 98 = .ok (.aload_n 0, 1) := by decide +kernel
theorem dX12_goOn_99 : decode cX12_goOn 99 = .ok (.getfield 36, 3) := by decide +kernel
theorem dX12_goOn_102 : decode cX12_goOn 102 = .ok (.iload_n 2, 1) := by decide +kernel
theorem dX12_goOn_103 : decode cX12_goOn 103 = .ok (.baload, 1) := by decide +kernel
theorem dX12_goOn_104 : decode cX12_goOn 104 = .ok (.bastore, 1) := by decide +kernel
theorem dX12_goOn_105 : decode cX12_goOn 105 = .ok (.iinc 2 1, 3) := by decide +kernel
theorem dX12_goOn_108 : decode cX12_goOn 108 = .ok (.goto (-21), 3) := by decide +kernel
theorem dX12_goOn_111 : decode cX12_goOn 111 = .ok (.return_, 1) := by decide +kernel
theorem dX12_soonestFrom_0 : decode cX12_soonestFrom 0 = .ok (.iconst 0, 1) := by decide +kernel
theorem dX12_soonestFrom_1 : decode cX12_soonestFrom 1 = .ok (.istore_n 2, 1) := by decide +kernel
theorem dX12_soonestFrom_2 : decode cX12_soonestFrom 2 = .ok (.iload_n 2, 1) := by decide +kernel
theorem dX12_soonestFrom_3 : decode cX12_soonestFrom 3 = .ok (.bipush 47, 2) := by decide +kernel
theorem dX12_soonestFrom_5 : decode cX12_soonestFrom 5 = .ok (.if_icmp .gt 24, 3) := by decide +kernel
theorem dX12_soonestFrom_8 : decode cX12_soonestFrom 8 = .ok (.aload_n 0, 1) := by decide +kernel
theorem dX12_soonestFrom_9 : decode cX12_soonestFrom 9 = .ok (.getfield 33, 3) := by decide +kernel
theorem dX12_soonestFrom_12 : decode cX12_soonestFrom 12 = .ok (.iload_n 2, 1) := by decide +kernel
theorem dX12_soonestFrom_13 : decode cX12_soonestFrom 13 = .ok (.iload_n 2, 1) := by decide +kernel
theorem dX12_soonestFrom_14 : decode cX12_soonestFrom 14 = .ok (.ifCond .ne 7, 3) := by decide +kernel
theorem dX12_soonestFrom_17 : decode cX12_soonestFrom 17 = .ok (.iconst 1, 1) := by decide +kernel
theorem dX12_soonestFrom_18 : decode cX12_soonestFrom 18 = .ok (.goto 4, 3) := by decide +kernel
theorem dX12_soonestFrom_21 : decode cX12_soonestFrom 21 = .ok (.iconst 0, 1) := by decide +kernel
theorem dX12_soonestFrom_22 : decode cX12_soonestFrom 22 = .ok (.bastore, 1) := by decide +kernel
theorem dX12_soonestFrom_23 : decode cX12_soonestFrom 23 = .ok (.iinc 2 1, 3) := by decide +kernel
theorem dX12_soonestFrom_26 : decode cX12_soonestFrom 26 = .ok (.goto (-24), 3) := by decide +kernel
theorem dX12_soonestFrom_29 : decode cX12_soonestFrom 29 = .ok (.iload_n 1, 1) := by decide +kernel
theorem dX12_soonestFrom_30 : decode cX12_soonestFrom 30 = .ok (.istore_n 2, 1) := by decide +kernel
theorem dX12_soonestFrom_31 : decode cX12_soonestFrom 31 = .ok (.iload_n 2, 1) := by decide +kernel
theorem dX12_soonestFrom_32 : decode cX12_soonestFrom 32 = .ok (.bipush 60, 2) := by decide +kernel
theorem dX12_soonestFrom_34 : decode cX12_soonestFrom 34 = .ok (.if_icmp .ge 28, 3) := by decide +kernel
theorem dX12_soonestFrom_37 : decode cX12_soonestFrom 37 = .ok (.aload_n 0, 1) := by decide +kernel
theorem dX12_soonestFrom_38 : decode cX12_soonestFrom 38 = .ok (.iload_n 2, 1) := by decide +kernel
theorem dX12_soonestFrom_39 : decode cX12_soonestFrom 39 = .ok (.invokevirtual 171, 3) := by decide +kernel
theorem dX12_soonestFrom_42 : decode cX12_soonestFrom 42 = .ok (.aload_n 0, 1) := by decide +kernel
theorem dX12_soonestFrom_43 : decode cX12_soonestFrom 43 = .ok (.getfield 33, 3) := by decide +kernel
theorem dX12_soonestFrom_46 : decode cX12_soonestFrom 46 = .ok (.bipush 47, 2) := by decide +kernel
theorem dX12_soonestFrom_48 : decode cX12_soonestFrom 48 = .ok (.baload, 1) := by decide +kernel
theorem dX12_soonestFrom_49 : decode cX12_soonestFrom 49 = .ok (.ifCond .eq 7, 3) := by decide +kernel
theorem dX12_soonestFrom_52 : decode cX12_soonestFrom 52 = .ok (.iload_n 2, 1) := by decide +kernel
theorem dX12_soonestFrom_53 : decode cX12_soonestFrom 53 = .ok (.iconst 1, 1) := by decide +kernel
theorem dX12_soonestFrom_54 : decode cX12_soonestFrom 54 = .ok (.iadd, 1) := by decide +kernel
theorem dX12_soonestFrom_55 : decode cX12_soonestFrom 55 = .ok (.ireturn, 1) := by decide +kernel
theorem dX12_soonestFrom_56 : decode cX12_soonestFrom 56 = .ok (.iinc 2 1, 3) := by decide +kernel
theorem dX12_soonestFrom_59 : decode cX12_soonestFrom 59 = .ok (.goto (-28), 3) := by decide +kernel
theorem dX12_soonestFrom_62 : decode cX12_soonestFrom 62 = .ok (.bipush 61, 2) := by decide +kernel
theorem dX12_soonestFrom_64 : decode cX12_soonestFrom 64 = .ok (.ireturn, 1) := by decide +kernel
theorem dX12_soonest_0 : decode cX12_soonest 0 = .ok (.iload_n 1, 1) := by decide +kernel
theorem dX12_soonest_1 : decode cX12_soonest 1 = .ok (.invokestatic 149, 3) := by decide +kernel
theorem dX12_soonest_4 : decode cX12_soonest 4 = .ok (.ifCond .ne 10, 3) := by decide +kernel
theorem dX12_soonest_7 : decode cX12_soonest 7 = .ok (.aload_n 0, 1) := by decide +kernel
theorem dX12_soonest_8 : decode cX12_soonest 8 = .ok (.bipush (-2), 2) := by decide +kernel
theorem dX12_soonest_10 : decode cX12_soonest 10 = .ok (.invokevirtual 75, 3) := by decide +kernel
theorem dX12_soonest_13 : decode cX12_soonest 13 = .ok (.ireturn, 1) := by decide +kernel
theorem dX12_soonest_14 : decode cX12_soonest 14 = .ok (.aload_n 0, 1) := by decide +kernel
theorem dX12_soonest_15 : decode cX12_soonest 15 = .ok (.aload_n 0, 1) := by decide +kernel
theorem dX12_soonest_16 : decode cX12_soonest 16 = .ok (.invokevirtual 152, 3) := by decide +kernel
theorem dX12_soonest_19 : decode cX12_soonest 19 = .ok (.invokevirtual 155, 3) := by decide +kernel
theorem dX12_soonest_22 : decode cX12_soonest 22 = .ok (.aload_n 0, 1) := by decide +kernel
theorem dX12_soonest_23 : decode cX12_soonest 23 = .ok (.iload_n 1, 1) := by decide +kernel
theorem dX12_soonest_24 : decode cX12_soonest 24 = .ok (.invokevirtual 174, 3) := by decide +kernel
theorem dX12_soonest_27 : decode cX12_soonest 27 = .ok (.invokestatic 168, 3) := by decide +kernel
theorem dX12_soonest_30 : decode cX12_soonest 30 = .ok (.ireturn, 1) := by decide +kernel
theorem dX12_start_0 : decode cX12_start 0 = .ok (.iload_n 1, 1) := by decide +kernel
theorem dX12_start_1 : decode cX12_start 1 = .ok (.invokestatic 149, 3) := by decide +kernel
theorem dX12_start_4 : decode cX12_start 4 = .ok (.ifCond .ne 10, 3) := by decide +kernel
theorem dX12_start_7 : decode cX12_start 7 = .ok (.aload_n 0, 1) := by decide +kernel
theorem dX12_start_8 : decode cX12_start 8 = .ok (.bipush (-2), 2) := by decide +kernel
theorem dX12_start_10 : decode cX12_start 10 = .ok (.invokevirtual 75, 3) := by decide +kernel
theorem dX12_start_13 : decode cX12_start 13 = .ok (.ireturn, 1) := by decide +kernel
theorem dX12_start_14 : decode cX12_start 14 = .ok (.iconst (-1), 1) := by decide +kernel
theorem dX12_start_15 : decode cX12_start 15 = .ok (.istore_n 2, 1) := by decide +kernel
theorem dX12_start_16 : decode cX12_start 16 = .ok (.bipush 61, 2) := by decide +kernel
theorem dX12_start_18 : decode cX12_start 18 = .ok (.istore_n 3, 1) := by decide +kernel
theorem dX12_start_19 : decode cX12_start 19 = .ok (.aload_n 0, 1) := by decide +kernel
theorem dX12_start_20 : decode cX12_start 20 = .ok (.aload_n 0, 1) := by decide +kernel
theorem dX12_start_21 : decode cX12_start 21 = .ok (.invokevirtual 152, 3) := by decide +kernel
theorem dX12_start_24 : decode cX12_start 24 = .ok (.invokevirtual 155, 3) := by decide +kernel
theorem dX12_start_27 : decode cX12_start 27 = .ok (.iload_n 1, 1) := by decide +kernel
theorem dX12_start_28 : decode cX12_start 28 = .ok (.istore 4, 2) := by decide +kernel
theorem dX12_start_30 : decode cX12_start 30 = .ok (.iload 4, 2) := by decide +kernel
theorem dX12_start_32 : decode cX12_start 32 = .ok (.bipush 60, 2) := by decide +kernel
theorem dX12_start_34 : decode cX12_start 34 = .ok (.if_icmp .ge 44, 3) := by decide +kernel
theorem dX12_start_37 : decode cX12_start 37 = .ok (.aload_n 0, 1) := by decide +kernel
theorem dX12_start_38 : decode cX12_start 38 = .ok (.iload 4, 2) := by decide +kernel
theorem dX12_start_40 : decode cX12_start 40 = .ok (.invokevirtual 165, 3) := by decide +kernel
theorem dX12_start_43 : decode cX12_start 43 = .ok (.istore 5, 2) := by decide +kernel
theorem dX12_start_45 : decode cX12_start 45 = .ok (.iload 5, 2) := by decide +kernel
theorem dX12_start_47 : decode cX12_start 47 = .ok (.bipush 61, 2) := by decide +kernel
theorem dX12_start_49 : decode cX12_start 49 = .ok (.if_icmp .eq 14, 3) := by decide +kernel
theorem dX12_start_52 : decode cX12_start 52 = .ok (.iload 5, 2) := by decide +kernel
theorem dX12_start_54 : decode cX12_start 54 = .ok (.iload_n 3, 1) := by decide +kernel
theorem dX12_start_55 : decode cX12_start 55 = .ok (.if_icmp .gt 8, 3) := by decide +kernel
theorem dX12_start_58 : decode cX12_start 58 = .ok (.iload 4, 2) := by decide +kernel
theorem dX12_start_60 : decode cX12_start 60 = .ok (.goto 4, 3) := by decide +kernel
theorem dX12_start_63 : decode cX12_start 63 = .ok (.iload_n 2, 1) := by decide +kernel
theorem dX12_start_64 : decode cX12_start 64 = .ok (.istore_n 2, 1) := by decide +kernel
theorem dX12_start_65 : decode cX12_start 65 = .ok (.iload_n 3, 1) := by decide +kernel
theorem dX12_start_66 : decode cX12_start 66 = .ok (.iload 5, 2) := by decide +kernel
theorem dX12_start_68 : decode cX12_start 68 = .ok (.invokestatic 119, 3) := by decide +kernel
theorem dX12_start_71 : decode cX12_start 71 = .ok (.istore_n 3, 1) := by decide +kernel
theorem dX12_start_72 : decode cX12_start 72 = .ok (.iinc 4 1, 3) := by decide +kernel
theorem dX12_start_75 : decode cX12_start 75 = .ok (.goto (-45), 3) := by decide +kernel
theorem dX12_start_78 : decode cX12_start 78 = .ok (.iload_n 2, 1) := by decide +kernel
theorem dX12_start_79 : decode cX12_start 79 = .ok (.ireturn, 1) := by decide +kernel
theorem dX12_speed_0 : decode cX12_speed 0 = .ok (.iload_n 1, 1) := by decide +kernel
theorem dX12_speed_1 : decode cX12_speed 1 = .ok (.i2l, 1) := by decide +kernel
theorem dX12_speed_2 : decode cX12_speed 2 = .ok (.lconst 0, 1) := by decide +kernel
theorem dX12_speed_3 : decode cX12_speed 3 = .ok (.ldc2_w 177, 3) := by decide +kernel
theorem dX12_speed_6 : decode cX12_speed 6 = .ok (.invokestatic 65, 3) := by decide +kernel
theorem dX12_speed_9 : decode cX12_speed 9 = .ok (.ifCond .ne 10, 3) := by decide +kernel
theorem dX12_speed_12 : decode cX12_speed 12 = .ok (.aload_n 0, 1) := by decide +kernel
theorem dX12_speed_13 : decode cX12_speed 13 = .ok (.bipush (-2), 2) := by decide +kernel
theorem dX12_speed_15 : decode cX12_speed 15 = .ok (.invokevirtual 75, 3) := by decide +kernel
theorem dX12_speed_18 : decode cX12_speed 18 = .ok (.ireturn, 1) := by decide +kernel
theorem dX12_speed_19 : decode cX12_speed 19 = .ok (.aload_n 0, 1) := by decide +kernel
theorem dX12_speed_20 : decode cX12_speed 20 = .ok (.getfield 7, 3) := by decide +kernel
theorem dX12_speed_23 : decode cX12_speed 23 = .ok (.iconst 3, 1) := by decide +kernel
theorem dX12_speed_24 : decode cX12_speed 24 = .ok (.iaload, 1) := by decide +kernel
theorem dX12_speed_25 : decode cX12_speed 25 = .ok (.bipush 20, 2) := by decide +kernel
theorem dX12_speed_27 : decode cX12_speed 27 = .ok (.if_icmp .ne 8, 3) := by decide +kernel
theorem dX12_speed_30 : decode cX12_speed 30 = .ok (.aload_n 0, 1) := by decide +kernel
theorem dX12_speed_31 : decode cX12_speed 31 = .ok (.invokevirtual 91, 3) := by decide +kernel
theorem dX12_speed_34 : decode cX12_speed 34 = .ok (.ireturn, 1) := by decide +kernel
theorem dX12_speed_35 : decode cX12_speed 35 = .ok (.aload_n 0, 1) := by decide +kernel
theorem dX12_speed_36 : decode cX12_speed 36 = .ok (.getfield 7, 3) := by decide +kernel
theorem dX12_speed_39 : decode cX12_speed 39 = .ok (.bipush 36, 2) := by decide +kernel
theorem dX12_speed_41 : decode cX12_speed 41 = .ok (.aload_n 0, 1) := by decide +kernel
theorem dX12_speed_42 : decode cX12_speed 42 = .ok (.getfield 7, 3) := by decide +kernel
theorem dX12_speed_45 : decode cX12_speed 45 = .ok (.iconst 3, 1) := by decide +kernel
theorem dX12_speed_46 : decode cX12_speed 46 = .ok (.iaload, 1) := by decide +kernel
theorem dX12_speed_47 : decode cX12_speed 47 = .ok (.iadd, 1) := by decide +kernel
theorem dX12_speed_48 : decode cX12_speed 48 = .ok (.iload_n 1, 1) := by decide +kernel
theorem dX12_speed_49 : decode cX12_speed 49 = .ok (.iastore, 1) := by decide +kernel
theorem dX12_speed_50 : decode cX12_speed 50 = .ok (.aload_n 0, 1) := by decide +kernel
theorem dX12_speed_51 : decode cX12_speed 51 = .ok (.getfield 7, 3) := by decide +kernel
theorem dX12_speed_54 : decode cX12_speed 54 = .ok (.iconst 3, 1) := by decide +kernel
theorem dX12_speed_55 : decode cX12_speed 55 = .ok (.dup2, 1) := by decide +kernel
theorem dX12_speed_56 : decode cX12_speed 56 = .ok (.iaload, 1) := by decide +kernel
theorem dX12_speed_57 : decode cX12_speed 57 = .ok (.iconst 1, 1) := by decide +kernel
theorem dX12_speed_58 : decode cX12_speed 58 = .ok (.iadd, 1) := by decide +kernel
theorem dX12_speed_59 : decode cX12_speed 59 = .ok (.iastore, 1) := by decide +kernel
theorem dX12_speed_60 : decode cX12_speed 60 = .ok (.aload_n 0, 1) := by decide +kernel
theorem dX12_speed_61 : decode cX12_speed 61 = .ok (.getfield 7, 3) := by decide +kernel
theorem dX12_speed_64 : decode cX12_speed 64 = .ok (.iconst 3, 1) := by decide +kernel
theorem dX12_speed_65 : decode cX12_speed 65 = .ok (.iaload, 1) := by decide +kernel
theorem dX12_speed_66 : decode cX12_speed 66 = .ok (.ireturn, 1) := by decide +kernel
theorem dX12_stop_0 : decode cX12_stop 0 = .ok (.aload_n 0, 1) := by decide +kernel
theorem dX12_stop_1 : decode cX12_stop 1 = .ok (.getfield 7, 3) := by decide +kernel
theorem dX12_stop_4 : decode cX12_stop 4 = .ok (.iconst 3, 1) := by decide +kernel
theorem dX12_stop_5 : decode cX12_stop 5 = .ok (.iaload, 1) := by decide +kernel
theorem dX12_stop_6 : decode cX12_stop 6 = .ok (.istore_n 1, 1) := by decide +kernel
theorem dX12_stop_7 : decode cX12_stop 7 = .ok (.aload_n 0, 1) := by decide +kernel
theorem dX12_stop_8 : decode cX12_stop 8 = .ok (.getfield 7, 3) := by decide +kernel
theorem dX12_stop_11 : decode cX12_stop 11 = .ok (.iconst 3, 1) := by decide +kernel
theorem dX12_stop_12 : decode cX12_stop 12 = .ok (.iconst 0, 1) := by decide +kernel
theorem dX12_stop_13 : decode cX12_stop 13 = .ok (.iastore, 1) := by decide +kernel
theorem dX12_stop_14 : decode cX12_stop 14 = .ok (.iload_n 1, 1) := by decide +kernel
theorem dX12_stop_15 : decode cX12_stop 15 = .ok (.ireturn, 1) := by decide +kernel
theorem dX12_pastIn_0 : decode cX12_pastIn 0 = .ok (.iconst 0, 1) := by decide +kernel
theorem dX12_pastIn_1 : decode cX12_pastIn 1 = .ok (.istore 4, 2) := by decide +kernel
theorem dX12_pastIn_3 : decode cX12_pastIn 3 = .ok (.iconst 0, 1) := by decide +kernel
theorem dX12_pastIn_4 : decode cX12_pastIn 4 = .ok (.istore 5, 2) := by decide +kernel
theorem dX12_pastIn_6 : decode cX12_pastIn 6 = .ok (.iload 5, 2) := by decide +kernel
theorem dX12_pastIn_8 : decode cX12_pastIn 8 = .ok (.aload_n 0, 1) := by decide +kernel
theorem dX12_pastIn_9 : decode cX12_pastIn 9 = .ok (.invokevirtual 61, 3) := by decide +kernel
theorem dX12_pastIn_12 : decode cX12_pastIn 12 = .ok (.if_icmp .ge 55, 3) := by decide +kernel
theorem dX12_pastIn_15 : decode cX12_pastIn 15 = .ok (.iload_n 2, 1) := by decide +kernel
theorem dX12_pastIn_16 : decode cX12_pastIn 16 = .ok (.iload_n 1, 1) := by decide +kernel
theorem dX12_pastIn_17 : decode cX12_pastIn 17 = .ok (.if_icmp .le 50, 3) := by decide +kernel
theorem dX12_pastIn_20 : decode cX12_pastIn 20 = .ok (.iload 4, 2) := by decide +kernel
theorem dX12_pastIn_22 : decode cX12_pastIn 22 = .ok (.aload_n 0, 1) := by decide +kernel
theorem dX12_pastIn_23 : decode cX12_pastIn 23 = .ok (.iload 5, 2) := by decide +kernel
theorem dX12_pastIn_25 : decode cX12_pastIn 25 = .ok (.iload_n 3, 1) := by decide +kernel
theorem dX12_pastIn_26 : decode cX12_pastIn 26 = .ok (.invokevirtual 125, 3) := by decide +kernel
theorem dX12_pastIn_29 : decode cX12_pastIn 29 = .ok (.ifCond .eq 28, 3) := by decide +kernel
theorem dX12_pastIn_32 : decode cX12_pastIn 32 = .ok (.aload_n 0, 1) := by decide +kernel
theorem dX12_pastIn_33 : decode cX12_pastIn 33 = .ok (.iload 5, 2) := by decide +kernel
theorem dX12_pastIn_35 : decode cX12_pastIn 35 = .ok (.iload_n 3, 1) := by decide +kernel
theorem dX12_pastIn_36 : decode cX12_pastIn 36 = .ok (.invokevirtual 129, 3) := by decide +kernel
theorem dX12_pastIn_39 : decode cX12_pastIn 39 = .ok (.i2l, 1) := by decide +kernel
theorem dX12_pastIn_40 : decode cX12_pastIn 40 = .ok (.iload_n 1, 1) := by decide +kernel
theorem dX12_pastIn_41 : decode cX12_pastIn 41 = .ok (.i2l, 1) := by decide +kernel
theorem dX12_pastIn_42 : decode cX12_pastIn 42 = .ok (.iload_n 2, 1) := by decide +kernel
theorem dX12_pastIn_43 : decode cX12_pastIn 43 = .ok (.i2l, 1) := by decide +kernel
theorem dX12_pastIn_44 : decode cX12_pastIn 44 = .ok (.invokestatic 65, 3) := by decide +kernel
theorem dX12_pastIn_47 : decode cX12_pastIn 47 = .ok (.ifCond .eq 10, 3) := by decide +kernel
theorem dX12_pastIn_50 : decode cX12_pastIn 50 = .ok (.iconst 1, 1) := by decide +kernel
theorem dX12_pastIn_51 : decode cX12_pastIn 51 = .ok (.iload 5, 2) := by decide +kernel
theorem dX12_pastIn_53 : decode cX12_pastIn 53 = .ok (.ishl, 1) := by decide +kernel
theorem dX12_pastIn_54 : decode cX12_pastIn 54 = .ok (.goto 4, 3) := by decide +kernel
theorem dX12_pastIn_57 : decode cX12_pastIn 57 = .ok (.iconst 0, 1) := by decide +kernel
theorem dX12_pastIn_58 : decode cX12_pastIn 58 = .ok (.ior, 1) := by decide +kernel
theorem dX12_pastIn_59 : decode cX12_pastIn 59 = .ok (.istore 4, 2) := by decide +kernel
theorem dX12_pastIn_61 : decode cX12_pastIn 61 = .ok (.iinc 5 1, 3) := by decide +kernel
theorem dX12_pastIn_64 : decode cX12_pastIn 64 = .ok (.goto (-58), 3) := by decide +kernel
theorem dX12_pastIn_67 : decode cX12_pastIn 67 = .ok (.iload 4, 2) := by decide +kernel
theorem dX12_pastIn_69 : decode cX12_pastIn 69 = .ok (.ireturn, 1) := by decide +kernel
theorem dX12_fined_0 : decode cX12_fined 0 = .ok (.iload_n 1, 1) := by decide +kernel
theorem dX12_fined_1 : decode cX12_fined 1 = .ok (.invokestatic 149, 3) := by decide +kernel
theorem dX12_fined_4 : decode cX12_fined 4 = .ok (.ifCond .eq 15, 3) := by decide +kernel
theorem dX12_fined_7 : decode cX12_fined 7 = .ok (.iload_n 2, 1) := by decide +kernel
theorem dX12_fined_8 : decode cX12_fined 8 = .ok (.i2l, 1) := by decide +kernel
theorem dX12_fined_9 : decode cX12_fined 9 = .ok (.lconst 0, 1) := by decide +kernel
theorem dX12_fined_10 : decode cX12_fined 10 = .ok (.ldc2_w 73, 3) := by decide +kernel
theorem dX12_fined_13 : decode cX12_fined 13 = .ok (.invokestatic 65, 3) := by decide +kernel
theorem dX12_fined_16 : decode cX12_fined 16 = .ok (.ifCond .ne 10, 3) := by decide +kernel
theorem dX12_fined_19 : decode cX12_fined 19 = .ok (.aload_n 0, 1) := by decide +kernel
theorem dX12_fined_20 : decode cX12_fined 20 = .ok (.bipush (-10), 2) := by decide +kernel
theorem dX12_fined_22 : decode cX12_fined 22 = .ok (.invokevirtual 75, 3) := by decide +kernel
theorem dX12_fined_25 : decode cX12_fined 25 = .ok (.ireturn, 1) := by decide +kernel
theorem dX12_fined_26 : decode cX12_fined 26 = .ok (.iconst 0, 1) := by decide +kernel
theorem dX12_fined_27 : decode cX12_fined 27 = .ok (.istore_n 3, 1) := by decide +kernel
theorem dX12_fined_28 : decode cX12_fined 28 = .ok (.iconst (-1), 1) := by decide +kernel
theorem dX12_fined_29 : decode cX12_fined 29 = .ok (.istore 4, 2) := by decide +kernel
theorem dX12_fined_31 : decode cX12_fined 31 = .ok (.iconst 0, 1) := by decide +kernel
theorem dX12_fined_32 : decode cX12_fined 32 = .ok (.istore 5, 2) := by decide +kernel
theorem dX12_fined_34 : decode cX12_fined 34 = .ok (.iconst 0, 1) := by decide +kernel
theorem dX12_fined_35 : decode cX12_fined 35 = .ok (.istore 6, 2) := by decide +kernel
theorem dX12_fined_37 : decode cX12_fined 37 = .ok (.aload_n 0, 1) := by decide +kernel
theorem dX12_fined_38 : decode cX12_fined 38 = .ok (.aload_n 0, 1) := by decide +kernel
theorem dX12_fined_39 : decode cX12_fined 39 = .ok (.invokevirtual 152, 3) := by decide +kernel
theorem dX12_fined_42 : decode cX12_fined 42 = .ok (.invokevirtual 155, 3) := by decide +kernel
theorem dX12_fined_45 : decode cX12_fined 45 = .ok (.iconst 0, 1) := by decide +kernel
theorem dX12_fined_46 : decode cX12_fined 46 = .ok (.istore 7, 2) := by decide +kernel
theorem dX12_fined_48 : decode cX12_fined 48 = .ok (.iload 7, 2) := by decide +kernel
theorem dX12_fined_50 : decode cX12_fined 50 = .ok (.aload_n 0, 1) := by decide +kernel
theorem dX12_fined_51 : decode cX12_fined 51 = .ok (.getfield 7, 3) := by decide +kernel
theorem dX12_fined_54 : decode cX12_fined 54 = .ok (.iconst 3, 1) := by decide +kernel
theorem dX12_fined_55 : decode cX12_fined 55 = .ok (.iaload, 1) := by decide +kernel
theorem dX12_fined_56 : decode cX12_fined 56 = .ok (.if_icmp .ge 105, 3) := by decide +kernel
theorem dX12_fined_59 : decode cX12_fined 59 = .ok (.iload_n 1, 1) := by decide +kernel
theorem dX12_fined_60 : decode cX12_fined 60 = .ok (.iload 7, 2) := by decide +kernel
theorem dX12_fined_62 : decode cX12_fined 62 = .ok (.iadd, 1) := by decide +kernel
theorem dX12_fined_63 : decode cX12_fined 63 = .ok (.bipush 60, 2) := by decide +kernel
theorem dX12_fined_65 : decode cX12_fined 65 = .ok (.if_icmp .ge 96, 3) := by decide +kernel
theorem dX12_fined_68 : decode cX12_fined 68 = .ok (.aload_n 0, 1) := by decide +kernel
theorem dX12_fined_69 : decode cX12_fined 69 = .ok (.getfield 7, 3) := by decide +kernel
theorem dX12_fined_72 : decode cX12_fined 72 = .ok (.bipush 36, 2) := by decide +kernel
theorem dX12_fined_74 : decode cX12_fined 74 = .ok (.iload 7, 2) := by decide +kernel
theorem dX12_fined_76 : decode cX12_fined 76 = .ok (.iadd, 1) := by decide +kernel
theorem dX12_fined_77 : decode cX12_fined 77 = .ok (.iaload, 1) := by decide +kernel
theorem dX12_fined_78 : decode cX12_fined 78 = .ok (.istore 8, 2) := by decide +kernel
theorem dX12_fined_80 : decode cX12_fined 80 = .ok (.iload 8, 2) := by decide +kernel
theorem dX12_fined_82 : decode cX12_fined 82 = .ok (.aload_n 0, 1) := by decide +kernel
theorem dX12_fined_83 : decode cX12_fined 83 = .ok (.iload_n 3, 1) := by decide +kernel
theorem dX12_fined_84 : decode cX12_fined 84 = .ok (.iload_n 1, 1) := by decide +kernel
theorem dX12_fined_85 : decode cX12_fined 85 = .ok (.iload 7, 2) := by decide +kernel
theorem dX12_fined_87 : decode cX12_fined 87 = .ok (.iadd, 1) := by decide +kernel
theorem dX12_fined_88 : decode cX12_fined 88 = .ok (.invokevirtual 159, 3) := by decide +kernel
theorem dX12_fined_91 : decode cX12_fined 91 = .ok (.isub, 1) := by decide +kernel
theorem dX12_fined_92 : decode cX12_fined 92 = .ok (.istore 9, 2) := by decide +kernel
theorem dX12_fined_94 : decode cX12_fined 94 = .ok (.bipush 47, 2) := by decide +kernel
theorem dX12_fined_96 : decode cX12_fined 96 = .ok (.iload_n 3, 1) := by decide +kernel
theorem dX12_fined_97 : decode cX12_fined 97 = .ok (.iload 8, 2) := by decide +kernel
theorem dX12_fined_99 : decode cX12_fined 99 = .ok (.iadd, 1) := by decide +kernel
theorem dX12_fined_100 : decode cX12_fined 100 = .ok (.invokestatic 119, 3) := by decide +kernel
theorem dX12_fined_103 : decode cX12_fined 103 = .ok (.istore 10, 2) := by decide +kernel
theorem dX12_fined_105 : decode cX12_fined 105 = .ok (.iload 9, 2) := by decide +kernel
theorem dX12_fined_107 : decode cX12_fined 107 = .ok (.ifCond .le 14, 3) := by decide +kernel
theorem dX12_fined_110 : decode cX12_fined 110 = .ok (.iload 4, 2) := by decide +kernel
theorem dX12_fined_112 : decode cX12_fined 112 = .ok (.iconst (-1), 1) := by decide +kernel
theorem dX12_fined_113 : decode cX12_fined 113 = .ok (.if_icmp .ne 8, 3) := by decide +kernel
theorem dX12_fined_116 : decode cX12_fined 116 = .ok (.iload 7, 2) := by decide +kernel
theorem dX12_fined_118 : decode cX12_fined 118 = .ok (.goto 5, 3) := by decide +kernel
theorem dX12_fined_121 : decode cX12_fined 121 = .ok (.iload 4, 2) := by decide +kernel
theorem dX12_fined_123 : decode cX12_fined 123 = .ok (.istore 4, 2) := by decide +kernel
theorem dX12_fined_125 : decode cX12_fined 125 = .ok (.iload 5, 2) := by decide +kernel
theorem dX12_fined_127 : decode cX12_fined 127 = .ok (.iconst 0, 1) := by decide +kernel
theorem dX12_fined_128 : decode cX12_fined 128 = .ok (.iload 9, 2) := by decide +kernel
theorem dX12_fined_130 : decode cX12_fined 130 = .ok (.invokestatic 122, 3) := by decide +kernel
theorem dX12_fined_133 : decode cX12_fined 133 = .ok (.iadd, 1) := by decide +kernel
theorem dX12_fined_134 : decode cX12_fined 134 = .ok (.istore 5, 2) := by decide +kernel
theorem dX12_fined_136 : decode cX12_fined 136 = .ok (.iload 6, 2) := by decide +kernel
theorem dX12_fined_138 : decode cX12_fined 138 = .ok (.aload_n 0, 1) := by decide +kernel
theorem dX12_fined_139 : decode cX12_fined 139 = .ok (.iload_n 3, 1) := by decide +kernel
theorem dX12_fined_140 : decode cX12_fined 140 = .ok (.iload 10, 2) := by decide +kernel
theorem dX12_fined_142 : decode cX12_fined 142 = .ok (.iload_n 1, 1) := by decide +kernel
theorem dX12_fined_143 : decode cX12_fined 143 = .ok (.iload 7, 2) := by decide +kernel
theorem dX12_fined_145 : decode cX12_fined 145 = .ok (.iadd, 1) := by decide +kernel
theorem dX12_fined_146 : decode cX12_fined 146 = .ok (.invokevirtual 179, 3) := by decide +kernel
theorem dX12_fined_149 : decode cX12_fined 149 = .ok (.ior, 1) := by decide +kernel
theorem dX12_fined_150 : decode cX12_fined 150 = .ok (.istore 6, 2) := by decide +kernel
theorem dX12_fined_152 : decode cX12_fined 152 = .ok (.iload 10, 2) := by decide +kernel
theorem dX12_fined_154 : decode cX12_fined 154 = .ok (.istore_n 3, 1) := by decide +kernel
theorem dX12_fined_155 : decode cX12_fined 155 = .ok (.iinc 7 1, 3) := by decide +kernel
theorem dX12_fined_158 : decode cX12_fined 158 = .ok (.goto (-110), 3) := by decide +kernel
theorem dX12_fined_161 : decode cX12_fined 161 = .ok (.iload_n 2, 1) := by decide +kernel
theorem dX12_fined_162 : decode cX12_fined 162 = .ok (.ifCond .ne 8, 3) := by decide +kernel
theorem dX12_fined_165 : decode cX12_fined 165 = .ok (.iload 4, 2) := by decide +kernel
theorem dX12_fined_167 : decode cX12_fined 167 = .ok (.goto 15, 3) := by decide +kernel
theorem dX12_fined_170 : decode cX12_fined 170 = .ok (.iload_n 2, 1) := by decide +kernel
theorem dX12_fined_171 : decode cX12_fined 171 = .ok (.iconst 1, 1) := by decide +kernel
theorem dX12_fined_172 : decode cX12_fined 172 = .ok (.if_icmp .ne 8, 3) := by decide +kernel
theorem dX12_fined_175 : decode cX12_fined 175 = .ok (.iload 5, 2) := by decide +kernel
theorem dX12_fined_177 : decode cX12_fined 177 = .ok (.goto 5, 3) := by decide +kernel
theorem dX12_fined_180 : decode cX12_fined 180 = .ok (.iload 6, 2) := by decide +kernel
theorem dX12_fined_182 : decode cX12_fined 182 = .ok (.ireturn, 1) := by decide +kernel
theorem dX12_toBed_0 : decode cX12_toBed 0 = .ok (.iload_n 1, 1) := by decide +kernel
theorem dX12_toBed_1 : decode cX12_toBed 1 = .ok (.invokestatic 149, 3) := by decide +kernel
theorem dX12_toBed_4 : decode cX12_toBed 4 = .ok (.ifCond .eq 25, 3) := by decide +kernel
theorem dX12_toBed_7 : decode cX12_toBed 7 = .ok (.iload_n 2, 1) := by decide +kernel
theorem dX12_toBed_8 : decode cX12_toBed 8 = .ok (.i2l, 1) := by decide +kernel
theorem dX12_toBed_9 : decode cX12_toBed 9 = .ok (.lconst 0, 1) := by decide +kernel
theorem dX12_toBed_10 : decode cX12_toBed 10 = .ok (.ldc2_w 182, 3) := by decide +kernel
theorem dX12_toBed_13 : decode cX12_toBed 13 = .ok (.invokestatic 65, 3) := by decide +kernel
theorem dX12_toBed_16 : decode cX12_toBed 16 = .ok (.ifCond .eq 13, 3) := by decide +kernel
theorem dX12_toBed_19 : decode cX12_toBed 19 = .ok (.iload_n 3, 1) := by decide +kernel
theorem dX12_toBed_20 : decode cX12_toBed 20 = .ok (.i2l, 1) := by decide +kernel
theorem dX12_toBed_21 : decode cX12_toBed 21 = .ok (.lconst 0, 1) := by decide +kernel
theorem dX12_toBed_22 : decode cX12_toBed 22 = .ok (.lconst 1, 1) := by decide +kernel
theorem dX12_toBed_23 : decode cX12_toBed 23 = .ok (.invokestatic 65, 3) := by decide +kernel
theorem dX12_toBed_26 : decode cX12_toBed 26 = .ok (.ifCond .ne 10, 3) := by decide +kernel
theorem dX12_toBed_29 : decode cX12_toBed 29 = .ok (.aload_n 0, 1) := by decide +kernel
theorem dX12_toBed_30 : decode cX12_toBed 30 = .ok (.bipush (-2), 2) := by decide +kernel
theorem dX12_toBed_32 : decode cX12_toBed 32 = .ok (.invokevirtual 75, 3) := by decide +kernel
theorem dX12_toBed_35 : decode cX12_toBed 35 = .ok (.ireturn, 1) := by decide +kernel
theorem dX12_toBed_36 : decode cX12_toBed 36 = .ok (.iconst 0, 1) := by decide +kernel
theorem dX12_toBed_37 : decode cX12_toBed 37 = .ok (.istore 4, 2) := by decide +kernel
theorem dX12_toBed_39 : decode cX12_toBed 39 = .ok (.ldc 139, 2) := by decide +kernel
theorem dX12_toBed_41 : decode cX12_toBed 41 = .ok (.istore 5, 2) := by decide +kernel
theorem dX12_toBed_43 : decode cX12_toBed 43 = .ok (.iconst 0, 1) := by decide +kernel
theorem dX12_toBed_44 : decode cX12_toBed 44 = .ok (.istore 6, 2) := by decide +kernel
theorem dX12_toBed_46 : decode cX12_toBed 46 = .ok (.iload 6, 2) := by decide +kernel
theorem dX12_toBed_48 : decode cX12_toBed 48 = .ok (.aload_n 0, 1) := by decide +kernel
theorem dX12_toBed_49 : decode cX12_toBed 49 = .ok (.invokevirtual 152, 3) := by decide +kernel
theorem dX12_toBed_52 : decode cX12_toBed 52 = .ok (.if_icmp .gt 100, 3) := by decide +kernel
theorem dX12_toBed_55 : decode cX12_toBed 55 = .ok (.iload 6, 2) := by decide +kernel
theorem dX12_toBed_57 : decode cX12_toBed 57 = .ok (.invokestatic 184, 3) := by decide +kernel
theorem dX12_toBed_60 : decode cX12_toBed 60 = .ok (.iload_n 2, 1) := by decide +kernel
theorem dX12_toBed_61 : decode cX12_toBed 61 = .ok (.if_icmp .gt 85, 3) := by decide +kernel
theorem dX12_toBed_64 : decode cX12_toBed 64 = .ok (.aload_n 0, 1) := by decide +kernel
theorem dX12_toBed_65 : decode cX12_toBed 65 = .ok (.aload_n 0, 1) := by decide +kernel
theorem dX12_toBed_66 : decode cX12_toBed 66 = .ok (.invokevirtual 152, 3) := by decide +kernel
theorem dX12_toBed_69 : decode cX12_toBed 69 = .ok (.iload 6, 2) := by decide +kernel
theorem dX12_toBed_71 : decode cX12_toBed 71 = .ok (.iconst (-1), 1) := by decide +kernel
theorem dX12_toBed_72 : decode cX12_toBed 72 = .ok (.ixor, 1) := by decide +kernel
theorem dX12_toBed_73 : decode cX12_toBed 73 = .ok (.iand, 1) := by decide +kernel
theorem dX12_toBed_74 : decode cX12_toBed 74 = .ok (.invokevirtual 155, 3) := by decide +kernel
theorem dX12_toBed_77 : decode cX12_toBed 77 = .ok (.aload_n 0, 1) := by decide +kernel
theorem dX12_toBed_78 : decode cX12_toBed 78 = .ok (.iload_n 1, 1) := by decide +kernel
theorem dX12_toBed_79 : decode cX12_toBed 79 = .ok (.invokevirtual 174, 3) := by decide +kernel
theorem dX12_toBed_82 : decode cX12_toBed 82 = .ok (.istore 7, 2) := by decide +kernel
theorem dX12_toBed_84 : decode cX12_toBed 84 = .ok (.iload 7, 2) := by decide +kernel
theorem dX12_toBed_86 : decode cX12_toBed 86 = .ok (.iload 5, 2) := by decide +kernel
theorem dX12_toBed_88 : decode cX12_toBed 88 = .ok (.if_icmp .lt 23, 3) := by decide +kernel
theorem dX12_toBed_91 : decode cX12_toBed 91 = .ok (.iload 7, 2) := by decide +kernel
theorem dX12_toBed_93 : decode cX12_toBed 93 = .ok (.iload 5, 2) := by decide +kernel
theorem dX12_toBed_95 : decode cX12_toBed 95 = .ok (.if_icmp .ne 20, 3) := by decide +kernel
theorem dX12_toBed_98 : decode cX12_toBed 98 = .ok (.iload 6, 2) := by decide +kernel
theorem dX12_toBed_100 : decode cX12_toBed 100 = .ok (.invokestatic 184, 3) := by decide +kernel
theorem dX12_toBed_103 : decode cX12_toBed 103 = .ok (.iload 4, 2) := by decide +kernel
theorem dX12_toBed_105 : decode cX12_toBed 105 = .ok (.invokestatic 184, 3) := by decide +kernel
theorem dX12_toBed_108 : decode cX12_toBed 108 = .ok (.if_icmp .ge 7, 3) := by decide +kernel
theorem dX12_toBed_111 : decode cX12_toBed 111 = .ok (.iconst 1, 1) := by decide +kernel
theorem dX12_toBed_112 : decode cX12_toBed 112 = .ok (.goto 4, 3) := by decide +kernel
theorem dX12_toBed_115 : decode cX12_toBed 115 = .ok (.iconst 0, 1) := by decide +kernel
theorem dX12_toBed_116 : decode cX12_toBed 116 = .ok (.istore 8, 2) := by decide +kernel
theorem dX12_toBed_118 : decode cX12_toBed 118 = .ok (.iload 8, 2) := by decide +kernel
theorem dX12_toBed_120 : decode cX12_toBed 120 = .ok (.ifCond .eq 8, 3) := by decide +kernel
theorem dX12_toBed_123 : decode cX12_toBed 123 = .ok (.iload 6, 2) := by decide +kernel
theorem dX12_toBed_125 : decode cX12_toBed 125 = .ok (.goto 5, 3) := by decide +kernel
theorem dX12_toBed_128 : decode cX12_toBed 128 = .ok (.iload 4, 2) := by decide +kernel
theorem dX12_toBed_130 : decode cX12_toBed 130 = .ok (.istore 4, 2) := by decide +kernel
theorem dX12_toBed_132 : decode cX12_toBed 132 = .ok (.iload 8, 2) := by decide +kernel
theorem dX12_toBed_134 : decode cX12_toBed 134 = .ok (.ifCond .eq 8, 3) := by decide +kernel
theorem dX12_toBed_137 : decode cX12_toBed 137 = .ok (.iload 7, 2) := by decide +kernel
theorem dX12_toBed_139 : decode cX12_toBed 139 = .ok (.goto 5, 3) := by decide +kernel
theorem dX12_toBed_142 : decode cX12_toBed 142 = .ok (.iload 5, 2) := by decide +kernel
theorem dX12_toBed_144 : decode cX12_toBed 144 = .ok (.istore 5, 2) := by decide +kernel
theorem dX12_toBed_146 : decode cX12_toBed 146 = .ok (.iinc 6 1, 3) := by decide +kernel
theorem dX12_toBed_149 : decode cX12_toBed 149 = .ok (.goto (-103), 3) := by decide +kernel
theorem dX12_toBed_152 : decode cX12_toBed 152 = .ok (.iload_n 3, 1) := by decide +kernel
theorem dX12_toBed_153 : decode cX12_toBed 153 = .ok (.ifCond .ne 8, 3) := by decide +kernel
theorem dX12_toBed_156 : decode cX12_toBed 156 = .ok (.iload 4, 2) := by decide +kernel
theorem dX12_toBed_158 : decode cX12_toBed 158 = .ok (.goto 5, 3) := by decide +kernel
theorem dX12_toBed_161 : decode cX12_toBed 161 = .ok (.iload 5, 2) := by decide +kernel
theorem dX12_toBed_163 : decode cX12_toBed 163 = .ok (.ireturn, 1) := by decide +kernel
theorem dX12_move_0 : decode cX12_move 0 = .ok (.iload_n 1, 1) := by decide +kernel
theorem dX12_move_1 : decode cX12_move 1 = .ok (.invokestatic 149, 3) := by decide +kernel
theorem dX12_move_4 : decode cX12_move 4 = .ok (.ifCond .ne 10, 3) := by decide +kernel
theorem dX12_move_7 : decode cX12_move 7 = .ok (.aload_n 0, 1) := by decide +kernel
theorem dX12_move_8 : decode cX12_move 8 = .ok (.bipush (-2), 2) := by decide +kernel
theorem dX12_move_10 : decode cX12_move 10 = .ok (.invokevirtual 75, 3) := by decide +kernel
theorem dX12_move_13 : decode cX12_move 13 = .ok (.ireturn, 1) := by decide +kernel
theorem dX12_move_14 : decode cX12_move 14 = .ok (.aload_n 0, 1) := by decide +kernel
theorem dX12_move_15 : decode cX12_move 15 = .ok (.aload_n 0, 1) := by decide +kernel
theorem dX12_move_16 : decode cX12_move 16 = .ok (.invokevirtual 152, 3) := by decide +kernel
theorem dX12_move_19 : decode cX12_move 19 = .ok (.invokevirtual 155, 3) := by decide +kernel
theorem dX12_move_22 : decode cX12_move 22 = .ok (.iconst (-1), 1) := by decide +kernel
theorem dX12_move_23 : decode cX12_move 23 = .ok (.istore_n 2, 1) := by decide +kernel
theorem dX12_move_24 : decode cX12_move 24 = .ok (.aload_n 0, 1) := by decide +kernel
theorem dX12_move_25 : decode cX12_move 25 = .ok (.iload_n 1, 1) := by decide +kernel
theorem dX12_move_26 : decode cX12_move 26 = .ok (.invokevirtual 165, 3) := by decide +kernel
theorem dX12_move_29 : decode cX12_move 29 = .ok (.istore_n 3, 1) := by decide +kernel
theorem dX12_move_30 : decode cX12_move 30 = .ok (.iconst 0, 1) := by decide +kernel
theorem dX12_move_31 : decode cX12_move 31 = .ok (.istore 4, 2) := by decide +kernel
theorem dX12_move_33 : decode cX12_move 33 = .ok (.iload 4, 2) := by decide +kernel
theorem dX12_move_35 : decode cX12_move 35 = .ok (.aload_n 0, 1) := by decide +kernel
theorem dX12_move_36 : decode cX12_move 36 = .ok (.invokevirtual 61, 3) := by decide +kernel
theorem dX12_move_39 : decode cX12_move 39 = .ok (.if_icmp .ge 81, 3) := by decide +kernel
theorem dX12_move_42 : decode cX12_move 42 = .ok (.iconst 0, 1) := by decide +kernel
theorem dX12_move_43 : decode cX12_move 43 = .ok (.istore 5, 2) := by decide +kernel
theorem dX12_move_45 : decode cX12_move 45 = .ok (.iload 5, 2) := by decide +kernel
theorem dX12_move_47 : decode cX12_move 47 = .ok (.bipush 47, 2) := by decide +kernel
theorem dX12_move_49 : decode cX12_move 49 = .ok (.if_icmp .gt 51, 3) := by decide +kernel
theorem dX12_move_52 : decode cX12_move 52 = .ok (.aload_n 0, 1) := by decide +kernel
theorem dX12_move_53 : decode cX12_move 53 = .ok (.getfield 30, 3) := by decide +kernel
theorem dX12_move_56 : decode cX12_move 56 = .ok (.iload 4, 2) := by decide +kernel
theorem dX12_move_58 : decode cX12_move 58 = .ok (.iload 5, 2) := by decide +kernel
theorem dX12_move_60 : decode cX12_move 60 = .ok (.iastore, 1) := by decide +kernel
theorem dX12_move_61 : decode cX12_move 61 = .ok (.aload_n 0, 1) := by decide +kernel
theorem dX12_move_62 : decode cX12_move 62 = .ok (.iload_n 1, 1) := by decide +kernel
theorem dX12_move_63 : decode cX12_move 63 = .ok (.invokevirtual 165, 3) := by decide +kernel
theorem dX12_move_66 : decode cX12_move 66 = .ok (.istore 6, 2) := by decide +kernel
theorem dX12_move_68 : decode cX12_move 68 = .ok (.iload 6, 2) := by decide +kernel
theorem dX12_move_70 : decode cX12_move 70 = .ok (.iload_n 3, 1) := by decide +kernel
theorem dX12_move_71 : decode cX12_move 71 = .ok (.if_icmp .ge 14, 3) := by decide +kernel
theorem dX12_move_74 : decode cX12_move 74 = .ok (.bipush 100, 2) := by decide +kernel
theorem dX12_move_76 : decode cX12_move 76 = .ok (.iload 4, 2) := by decide +kernel
theorem dX12_move_78 : decode cX12_move 78 = .ok (.imul, 1) := by decide +kernel
theorem dX12_move_79 : decode cX12_move 79 = .ok (.iload 5, 2) := by decide +kernel
theorem dX12_move_81 : decode cX12_move 81 = .ok (.iadd, 1) := by decide +kernel
theorem dX12_move_82 : decode cX12_move 82 = .ok (.goto 4, 3) := by decide +kernel
theorem dX12_move_85 : decode cX12_move 85 = .ok (.iload_n 2, 1) := by decide +kernel
theorem dX12_move_86 : decode cX12_move 86 = .ok (.istore_n 2, 1) := by decide +kernel
theorem dX12_move_87 : decode cX12_move 87 = .ok (.iload_n 3, 1) := by decide +kernel
theorem dX12_move_88 : decode cX12_move 88 = .ok (.iload 6, 2) := by decide +kernel
theorem dX12_move_90 : decode cX12_move 90 = .ok (.invokestatic 119, 3) := by decide +kernel
theorem dX12_move_93 : decode cX12_move 93 = .ok (.istore_n 3, 1) := by decide +kernel
theorem dX12_move_94 : decode cX12_move 94 = .ok (.iinc 5 1, 3) := by decide +kernel
theorem dX12_move_97 : decode cX12_move 97 = .ok (.goto (-52), 3) := by decide +kernel
theorem dX12_move_100 : decode cX12_move 100 = .ok (.aload_n 0, 1) := by decide +kernel
theorem dX12_move_101 : decode cX12_move 101 = .ok (.getfield 30, 3) := by decide +kernel
theorem dX12_move_104 : decode cX12_move 104 = .ok (.iload 4, 2) := by decide +kernel
theorem dX12_move_106 : decode cX12_move 106 = .ok (.aload_n 0, 1) := by decide +kernel
theorem dX12_move_107 : decode cX12_move 107 = .ok (.iload 4, 2) := by decide +kernel
theorem dX12_move_109 : decode cX12_move 109 = .ok (.iconst 2, 1) := by decide +kernel
theorem dX12_move_110 : decode cX12_move 110 = .ok (.invokevirtual 98, 3) := by decide +kernel
theorem dX12_move_113 : decode cX12_move 113 = .ok (.iastore, 1) := by decide +kernel
theorem dX12_move_114 : decode cX12_move 114 = .ok (.iinc 4 1, 3) := by decide +kernel
theorem dX12_move_117 : decode cX12_move 117 = .ok (.goto (-84), 3) := by decide +kernel
theorem dX12_move_120 : decode cX12_move 120 = .ok (.iload_n 2, 1) := by decide +kernel
theorem dX12_move_121 : decode cX12_move 121 = .ok (.ireturn, 1) := by decide +kernel
theorem dX12_layGets_0 : decode cX12_layGets 0 = .ok (.iconst 0, 1) := by decide +kernel
theorem dX12_layGets_1 : decode cX12_layGets 1 = .ok (.istore_n 2, 1) := by decide +kernel
theorem dX12_layGets_2 : decode cX12_layGets 2 = .ok (.iload_n 2, 1) := by decide +kernel
theorem dX12_layGets_3 : decode cX12_layGets 3 = .ok (.bipush 36, 2) := by decide +kernel
theorem dX12_layGets_5 : decode cX12_layGets 5 = .ok (.if_icmp .ge 69, 3) := by decide +kernel
theorem dX12_layGets_8 : decode cX12_layGets 8 = .ok (.iload_n 2, 1) := by decide +kernel
theorem dX12_layGets_9 : decode cX12_layGets 9 = .ok (.bipush 6, 2) := by decide +kernel
theorem dX12_layGets_11 : decode cX12_layGets 11 = .ok (.idiv, 1) := by decide +kernel
theorem dX12_layGets_12 : decode cX12_layGets 12 = .ok (.iload_n 2, 1) := by decide +kernel
theorem dX12_layGets_13 : decode cX12_layGets 13 = .ok (.bipush 6, 2) := by decide +kernel
theorem dX12_layGets_15 : decode cX12_layGets 15 = .ok (.irem, 1) := by decide +kernel
theorem dX12_layGets_16 : decode cX12_layGets 16 = .ok (.isub, 1) := by decide +kernel
theorem dX12_layGets_17 : decode cX12_layGets 17 = .ok (.istore_n 3, 1) := by decide +kernel
theorem dX12_layGets_18 : decode cX12_layGets 18 = .ok (.aload_n 0, 1) := by decide +kernel
theorem dX12_layGets_19 : decode cX12_layGets 19 = .ok (.iload_n 1, 1) := by decide +kernel
theorem dX12_layGets_20 : decode cX12_layGets 20 = .ok (.iload_n 2, 1) := by decide +kernel
theorem dX12_layGets_21 : decode cX12_layGets 21 = .ok (.bipush 6, 2) := by decide +kernel
theorem dX12_layGets_23 : decode cX12_layGets 23 = .ok (.idiv, 1) := by decide +kernel
theorem dX12_layGets_24 : decode cX12_layGets 24 = .ok (.iadd, 1) := by decide +kernel
theorem dX12_layGets_25 : decode cX12_layGets 25 = .ok (.invokevirtual 165, 3) := by decide +kernel
theorem dX12_layGets_28 : decode cX12_layGets 28 = .ok (.istore 4, 2) := by decide +kernel
theorem dX12_layGets_30 : decode cX12_layGets 30 = .ok (.aload_n 0, 1) := by decide +kernel
theorem dX12_layGets_31 : decode cX12_layGets 31 = .ok (.getfield 39, 3) := by decide +kernel
theorem dX12_layGets_34 : decode cX12_layGets 34 = .ok (.iload_n 2, 1) := by decide +kernel
theorem dX12_layGets_35 : decode cX12_layGets 35 = .ok (.iload 4, 2) := by decide +kernel
theorem dX12_layGets_37 : decode cX12_layGets 37 = .ok (.bipush 61, 2) := by decide +kernel
theorem dX12_layGets_39 : decode cX12_layGets 39 = .ok (.if_icmp .ne 7, 3) := by decide +kernel
theorem dX12_layGets_42 : decode cX12_layGets 42 = .ok (.iconst 0, 1) := by decide +kernel
theorem dX12_layGets_43 : decode cX12_layGets 43 = .ok (.goto 24, 3) := by decide +kernel
theorem dX12_layGets_46 : decode cX12_layGets 46 = .ok (.bipush 100, 2) := by decide +kernel
theorem dX12_layGets_48 : decode cX12_layGets 48 = .ok (.iload 4, 2) := by decide +kernel
theorem dX12_layGets_50 : decode cX12_layGets 50 = .ok (.isub, 1) := by decide +kernel
theorem dX12_layGets_51 : decode cX12_layGets 51 = .ok (.iload_n 3, 1) := by decide +kernel
theorem dX12_layGets_52 : decode cX12_layGets 52 = .ok (.iconst 1, 1) := by decide +kernel
theorem dX12_layGets_53 : decode cX12_layGets 53 = .ok (.if_icmp .eq 8, 3) := by decide +kernel
theorem dX12_layGets_56 : decode cX12_layGets 56 = .ok (.iload_n 3, 1) := by decide +kernel
theorem dX12_layGets_57 : decode cX12_layGets 57 = .ok (.iconst 2, 1) := by decide +kernel
theorem dX12_layGets_58 : decode cX12_layGets 58 = .ok (.if_icmp .ne 7, 3) := by decide +kernel
theorem dX12_layGets_61 : decode cX12_layGets 61 = .ok (.iconst 4, 1) := by decide +kernel
theorem dX12_layGets_62 : decode cX12_layGets 62 = .ok (.goto 4, 3) := by decide +kernel
theorem dX12_layGets_65 : decode cX12_layGets 65 = .ok (.iconst 0, 1) := by decide +kernel
theorem dX12_layGets_66 : decode cX12_layGets 66 = .ok (.isub, 1) := by decide +kernel
theorem dX12_layGets_67 : decode cX12_layGets 67 = .ok (.iastore, 1) := by decide +kernel
theorem dX12_layGets_68 : decode cX12_layGets 68 = .ok (.iinc 2 1, 3) := by decide +kernel
theorem dX12_layGets_71 : decode cX12_layGets 71 = .ok (.goto (-69), 3) := by decide +kernel
theorem dX12_layGets_74 : decode cX12_layGets 74 = .ok (.return_, 1) := by decide +kernel
theorem dX12_rests_0 : decode cX12_rests 0 = .ok (.iconst 1, 1) := by decide +kernel
theorem dX12_rests_1 : decode cX12_rests 1 = .ok (.istore_n 3, 1) := by decide +kernel
theorem dX12_rests_2 : decode cX12_rests 2 = .ok (.iconst 0, 1) := by decide +kernel
theorem dX12_rests_3 : decode cX12_rests 3 = .ok (.istore 4, 2) := by decide +kernel
theorem dX12_rests_5 : decode cX12_rests 5 = .ok (.iload 4, 2) := by decide +kernel
theorem dX12_rests_7 : decode cX12_rests 7 = .ok (.bipush 6, 2) := by decide +kernel
theorem dX12_rests_9 : decode cX12_rests 9 = .ok (.if_icmp .ge 71, 3) := by decide +kernel
theorem dX12_rests_12 : decode cX12_rests 12 = .ok (.iload_n 3, 1) := by decide +kernel
theorem dX12_rests_13 : decode cX12_rests 13 = .ok (.ifCond .eq 59, 3) := by decide +kernel
theorem dX12_rests_16 : decode cX12_rests 16 = .ok (.aload_n 0, 1) := by decide +kernel
theorem dX12_rests_17 : decode cX12_rests 17 = .ok (.getfield 39, 3) := by decide +kernel
theorem dX12_rests_20 : decode cX12_rests 20 = .ok (.bipush 6, 2) := by decide +kernel
theorem dX12_rests_22 : decode cX12_rests 22 = .ok (.iload_n 1, 1) := by decide +kernel
theorem dX12_rests_23 : decode cX12_rests 23 = .ok (.imul, 1) := by decide +kernel
theorem dX12_rests_24 : decode cX12_rests 24 = .ok (.iload_n 2, 1) := by decide +kernel
theorem dX12_rests_25 : decode cX12_rests 25 = .ok (.iadd, 1) := by decide +kernel
theorem dX12_rests_26 : decode cX12_rests 26 = .ok (.iaload, 1) := by decide +kernel
theorem dX12_rests_27 : decode cX12_rests 27 = .ok (.aload_n 0, 1) := by decide +kernel
theorem dX12_rests_28 : decode cX12_rests 28 = .ok (.getfield 39, 3) := by decide +kernel
theorem dX12_rests_31 : decode cX12_rests 31 = .ok (.bipush 6, 2) := by decide +kernel
theorem dX12_rests_33 : decode cX12_rests 33 = .ok (.iload 4, 2) := by decide +kernel
theorem dX12_rests_35 : decode cX12_rests 35 = .ok (.imul, 1) := by decide +kernel
theorem dX12_rests_36 : decode cX12_rests 36 = .ok (.iload_n 2, 1) := by decide +kernel
theorem dX12_rests_37 : decode cX12_rests 37 = .ok (.iadd, 1) := by decide +kernel
theorem dX12_rests_38 : decode cX12_rests 38 = .ok (.iaload, 1) := by decide +kernel
theorem dX12_rests_39 : decode cX12_rests 39 = .ok (.if_icmp .lt 33, 3) := by decide +kernel
theorem dX12_rests_42 : decode cX12_rests 42 = .ok (.aload_n 0, 1) := by decide +kernel
theorem dX12_rests_43 : decode cX12_rests 43 = .ok (.getfield 39, 3) := by decide +kernel
theorem dX12_rests_46 : decode cX12_rests 46 = .ok (.bipush 6, 2) := by decide +kernel
theorem dX12_rests_48 : decode cX12_rests 48 = .ok (.iload_n 2, 1) := by decide +kernel
theorem dX12_rests_49 : decode cX12_rests 49 = .ok (.imul, 1) := by decide +kernel
theorem dX12_rests_50 : decode cX12_rests 50 = .ok (.iload_n 1, 1) := by decide +kernel
theorem dX12_rests_51 : decode cX12_rests 51 = .ok (.iadd, 1) := by decide +kernel
theorem dX12_rests_52 : decode cX12_rests 52 = .ok (.iaload, 1) := by decide +kernel
theorem dX12_rests_53 : decode cX12_rests 53 = .ok (.aload_n 0, 1) := by decide +kernel
theorem dX12_rests_54 : decode cX12_rests 54 = .ok (.getfield 39, 3) := by decide +kernel
theorem dX12_rests_57 : decode cX12_rests 57 = .ok (.bipush 6, 2) := by decide +kernel
theorem dX12_rests_59 : decode cX12_rests 59 = .ok (.iload 4, 2) := by decide +kernel
theorem dX12_rests_61 : decode cX12_rests 61 = .ok (.imul, 1) := by decide +kernel
theorem dX12_rests_62 : decode cX12_rests 62 = .ok (.iload_n 1, 1) := by decide +kernel
theorem dX12_rests_63 : decode cX12_rests 63 = .ok (.iadd, 1) := by decide +kernel
theorem dX12_rests_64 : decode cX12_rests 64 = .ok (.iaload, 1) := by decide +kernel
theorem dX12_rests_65 : decode cX12_rests 65 = .ok (.if_icmp .lt 7, 3) := by decide +kernel
theorem dX12_rests_68 : decode cX12_rests 68 = .ok (.iconst 1, 1) := by decide +kernel
theorem dX12_rests_69 : decode cX12_rests 69 = .ok (.goto 4, 3) := by decide +kernel
theorem dX12_rests_72 : decode cX12_rests 72 = .ok (.iconst 0, 1) := by decide +kernel
theorem dX12_rests_73 : decode cX12_rests 73 = .ok (.istore_n 3, 1) := by decide +kernel
theorem dX12_rests_74 : decode cX12_rests 74 = .ok (.iinc 4 1, 3) := by decide +kernel
theorem dX12_rests_77 : decode cX12_rests 77 = .ok (.goto (-72), 3) := by decide +kernel
theorem dX12_rests_80 : decode cX12_rests 80 = .ok (.iload_n 3, 1) := by decide +kernel
theorem dX12_rests_81 : decode cX12_rests 81 = .ok (.ireturn, 1) := by decide +kernel
theorem dX12_carters_0 : decode cX12_carters 0 = .ok (.iload_n 1, 1) := by decide +kernel
theorem dX12_carters_1 : decode cX12_carters 1 = .ok (.i2l, 1) := by decide +kernel
theorem dX12_carters_2 : decode cX12_carters 2 = .ok (.lconst 0, 1) := by decide +kernel
theorem dX12_carters_3 : decode cX12_carters 3 = .ok (.ldc2_w 187, 3) := by decide +kernel
theorem dX12_carters_6 : decode cX12_carters 6 = .ok (.invokestatic 65, 3) := by decide +kernel
theorem dX12_carters_9 : decode cX12_carters 9 = .ok (.ifCond .eq 13, 3) := by decide +kernel
theorem dX12_carters_12 : decode cX12_carters 12 = .ok (.iload_n 2, 1) := by decide +kernel
theorem dX12_carters_13 : decode cX12_carters 13 = .ok (.i2l, 1) := by decide +kernel
theorem dX12_carters_14 : decode cX12_carters 14 = .ok (.lconst 0, 1) := by decide +kernel
theorem dX12_carters_15 : decode cX12_carters 15 = .ok (.lconst 1, 1) := by decide +kernel
theorem dX12_carters_16 : decode cX12_carters 16 = .ok (.invokestatic 65, 3) := by decide +kernel
theorem dX12_carters_19 : decode cX12_carters 19 = .ok (.ifCond .ne 10, 3) := by decide +kernel
theorem dX12_carters_22 : decode cX12_carters 22 = .ok (.aload_n 0, 1) := by decide +kernel
theorem dX12_carters_23 : decode cX12_carters 23 = .ok (.bipush (-10), 2) := by decide +kernel
theorem dX12_carters_25 : decode cX12_carters 25 = .ok (.invokevirtual 75, 3) := by decide +kernel
theorem dX12_carters_28 : decode cX12_carters 28 = .ok (.ireturn, 1) := by decide +kernel
theorem dX12_carters_29 : decode cX12_carters 29 = .ok (.aload_n 0, 1) := by decide +kernel
theorem dX12_carters_30 : decode cX12_carters 30 = .ok (.aload_n 0, 1) := by decide +kernel
theorem dX12_carters_31 : decode cX12_carters 31 = .ok (.invokevirtual 152, 3) := by decide +kernel
theorem dX12_carters_34 : decode cX12_carters 34 = .ok (.invokevirtual 155, 3) := by decide +kernel
theorem dX12_carters_37 : decode cX12_carters 37 = .ok (.aload_n 0, 1) := by decide +kernel
theorem dX12_carters_38 : decode cX12_carters 38 = .ok (.iload_n 1, 1) := by decide +kernel
theorem dX12_carters_39 : decode cX12_carters 39 = .ok (.invokevirtual 189, 3) := by decide +kernel
theorem dX12_carters_42 : decode cX12_carters 42 = .ok (.iconst 0, 1) := by decide +kernel
theorem dX12_carters_43 : decode cX12_carters 43 = .ok (.istore_n 3, 1) := by decide +kernel
theorem dX12_carters_44 : decode cX12_carters 44 = .ok (.iconst (-1), 1) := by decide +kernel
theorem dX12_carters_45 : decode cX12_carters 45 = .ok (.istore 4, 2) := by decide +kernel
theorem dX12_carters_47 : decode cX12_carters 47 = .ok (.iconst 0, 1) := by decide +kernel
theorem dX12_carters_48 : decode cX12_carters 48 = .ok (.istore 5, 2) := by decide +kernel
theorem dX12_carters_50 : decode cX12_carters 50 = .ok (.iload 5, 2) := by decide +kernel
theorem dX12_carters_52 : decode cX12_carters 52 = .ok (.bipush 36, 2) := by decide +kernel
theorem dX12_carters_54 : decode cX12_carters 54 = .ok (.if_icmp .ge 54, 3) := by decide +kernel
theorem dX12_carters_57 : decode cX12_carters 57 = .ok (.aload_n 0, 1) := by decide +kernel
theorem dX12_carters_58 : decode cX12_carters 58 = .ok (.iload 5, 2) := by decide +kernel
theorem dX12_carters_60 : decode cX12_carters 60 = .ok (.bipush 6, 2) := by decide +kernel
theorem dX12_carters_62 : decode cX12_carters 62 = .ok (.idiv, 1) := by decide +kernel
theorem dX12_carters_63 : decode cX12_carters 63 = .ok (.iload 5, 2) := by decide +kernel
theorem dX12_carters_65 : decode cX12_carters 65 = .ok (.bipush 6, 2) := by decide +kernel
theorem dX12_carters_67 : decode cX12_carters 67 = .ok (.irem, 1) := by decide +kernel
theorem dX12_carters_68 : decode cX12_carters 68 = .ok (.invokevirtual 192, 3) := by decide +kernel
theorem dX12_carters_71 : decode cX12_carters 71 = .ok (.ifCond .eq 31, 3) := by decide +kernel
theorem dX12_carters_74 : decode cX12_carters 74 = .ok (.iload_n 3, 1) := by decide +kernel
theorem dX12_carters_75 : decode cX12_carters 75 = .ok (.ifCond .ne 20, 3) := by decide +kernel
theorem dX12_carters_78 : decode cX12_carters 78 = .ok (.iload 5, 2) := by decide +kernel
theorem dX12_carters_80 : decode cX12_carters 80 = .ok (.bipush 6, 2) := by decide +kernel
theorem dX12_carters_82 : decode cX12_carters 82 = .ok (.idiv, 1) := by decide +kernel
theorem dX12_carters_83 : decode cX12_carters 83 = .ok (.bipush 10, 2) := by decide +kernel
theorem dX12_carters_85 : decode cX12_carters 85 = .ok (.imul, 1) := by decide +kernel
theorem dX12_carters_86 : decode cX12_carters 86 = .ok (.iload 5, 2) := by decide +kernel
theorem dX12_carters_88 : decode cX12_carters 88 = .ok (.bipush 6, 2) := by decide +kernel
theorem dX12_carters_90 : decode cX12_carters 90 = .ok (.irem, 1) := by decide +kernel
theorem dX12_carters_91 : decode cX12_carters 91 = .ok (.iadd, 1) := by decide +kernel
theorem dX12_carters_92 : decode cX12_carters 92 = .ok (.goto 5, 3) := by decide +kernel
theorem dX12_carters_95 : decode cX12_carters 95 = .ok (.iload 4, 2) := by decide +kernel
theorem dX12_carters_97 : decode cX12_carters 97 = .ok (.istore 4, 2) := by decide +kernel
theorem dX12_carters_99 : decode cX12_carters 99 = .ok (.iinc 3 1, 3) := by decide +kernel
theorem dX12_carters_102 : decode cX12_carters 102 = .ok (.iinc 5 1, 3) := by decide +kernel
theorem dX12_carters_105 : decode cX12_carters 105 = .ok (.goto (-55), 3) := by decide +kernel
theorem dX12_carters_108 : decode cX12_carters 108 = .ok (.iload_n 2, 1) := by decide +kernel
theorem dX12_carters_109 : decode cX12_carters 109 = .ok (.ifCond .ne 7, 3) := by decide +kernel
theorem dX12_carters_112 : decode cX12_carters 112 = .ok (.iload_n 3, 1) := by decide +kernel
theorem dX12_carters_113 : decode cX12_carters 113 = .ok (.goto 5, 3) := by decide +kernel
theorem dX12_carters_116 : decode cX12_carters 116 = .ok (.iload 4, 2) := by decide +kernel
theorem dX12_carters_118 : decode cX12_carters 118 = .ok (.ireturn, 1) := by decide +kernel
theorem dX12_reading_0 : decode cX12_reading 0 = .ok (.iload_n 1, 1) := by decide +kernel
theorem dX12_reading_1 : decode cX12_reading 1 = .ok (.invokestatic 83, 3) := by decide +kernel
theorem dX12_reading_4 : decode cX12_reading 4 = .ok (.ifCond .eq 22, 3) := by decide +kernel
theorem dX12_reading_7 : decode cX12_reading 7 = .ok (.iload_n 2, 1) := by decide +kernel
theorem dX12_reading_8 : decode cX12_reading 8 = .ok (.invokestatic 149, 3) := by decide +kernel
theorem dX12_reading_11 : decode cX12_reading 11 = .ok (.ifCond .eq 15, 3) := by decide +kernel
theorem dX12_reading_14 : decode cX12_reading 14 = .ok (.iload_n 3, 1) := by decide +kernel
theorem dX12_reading_15 : decode cX12_reading 15 = .ok (.i2l, 1) := by decide +kernel
theorem dX12_reading_16 : decode cX12_reading 16 = .ok (.lconst 1, 1) := by decide +kernel
theorem dX12_reading_17 : decode cX12_reading 17 = .ok (.ldc2_w 81, 3) := by decide +kernel
theorem dX12_reading_20 : decode cX12_reading 20 = .ok (.invokestatic 65, 3) := by decide +kernel
theorem dX12_reading_23 : decode cX12_reading 23 = .ok (.ifCond .ne 10, 3) := by decide +kernel
theorem dX12_reading_26 : decode cX12_reading 26 = .ok (.aload_n 0, 1) := by decide +kernel
theorem dX12_reading_27 : decode cX12_reading 27 = .ok (.bipush (-2), 2) := by decide +kernel
theorem dX12_reading_29 : decode cX12_reading 29 = .ok (.invokevirtual 75, 3) := by decide +kernel
theorem dX12_reading_32 : decode cX12_reading 32 = .ok (.ireturn, 1) := by decide +kernel
theorem dX12_reading_33 : decode cX12_reading 33 = .ok (.aload_n 0, 1) := by decide +kernel
theorem dX12_reading_34 : decode cX12_reading 34 = .ok (.getfield 7, 3) := by decide +kernel
theorem dX12_reading_37 : decode cX12_reading 37 = .ok (.iconst 4, 1) := by decide +kernel
theorem dX12_reading_38 : decode cX12_reading 38 = .ok (.iaload, 1) := by decide +kernel
theorem dX12_reading_39 : decode cX12_reading 39 = .ok (.bipush 6, 2) := by decide +kernel
theorem dX12_reading_41 : decode cX12_reading 41 = .ok (.if_icmp .ne 8, 3) := by decide +kernel
theorem dX12_reading_44 : decode cX12_reading 44 = .ok (.aload_n 0, 1) := by decide +kernel
theorem dX12_reading_45 : decode cX12_reading 45 = .ok (.invokevirtual 91, 3) := by decide +kernel
theorem dX12_reading_48 : decode cX12_reading 48 = .ok (.ireturn, 1) := by decide +kernel
theorem dX12_reading_49 : decode cX12_reading 49 = .ok (.bipush 56, 2) := by decide +kernel
theorem dX12_reading_51 : decode cX12_reading 51 = .ok (.iconst 3, 1) := by decide +kernel
theorem dX12_reading_52 : decode cX12_reading 52 = .ok (.aload_n 0, 1) := by decide +kernel
theorem dX12_reading_53 : decode cX12_reading 53 = .ok (.getfield 7, 3) := by decide +kernel
theorem dX12_reading_56 : decode cX12_reading 56 = .ok (.iconst 4, 1) := by decide +kernel
theorem dX12_reading_57 : decode cX12_reading 57 = .ok (.iaload, 1) := by decide +kernel
theorem dX12_reading_58 : decode cX12_reading 58 = .ok (.imul, 1) := by decide +kernel
theorem dX12_reading_59 : decode cX12_reading 59 = .ok (.iadd, 1) := by decide +kernel
theorem dX12_reading_60 : decode cX12_reading 60 = .ok (.istore 4, 2) := by decide +kernel
theorem dX12_reading_62 : decode cX12_reading 62 = .ok (.aload_n 0, 1) := by decide +kernel
theorem dX12_reading_63 : decode cX12_reading 63 = .ok (.getfield 7, 3) := by decide +kernel
theorem dX12_reading_66 : decode cX12_reading 66 = .ok (.iload 4, 2) := by decide +kernel
theorem dX12_reading_68 : decode cX12_reading 68 = .ok (.iload_n 1, 1) := by decide +kernel
theorem dX12_reading_69 : decode cX12_reading 69 = .ok (.iastore, 1) := by decide +kernel
theorem dX12_reading_70 : decode cX12_reading 70 = .ok (.aload_n 0, 1) := by decide +kernel
theorem dX12_reading_71 : decode cX12_reading 71 = .ok (.getfield 7, 3) := by decide +kernel
theorem dX12_reading_74 : decode cX12_reading 74 = .ok (.iload 4, 2) := by decide +kernel
theorem dX12_reading_76 : decode cX12_reading 76 = .ok (.iconst 1, 1) := by decide +kernel
theorem dX12_reading_77 : decode cX12_reading 77 = .ok (.iadd, 1) := by decide +kernel
theorem dX12_reading_78 : decode cX12_reading 78 = .ok (.iload_n 2, 1) := by decide +kernel
theorem dX12_reading_79 : decode cX12_reading 79 = .ok (.iastore, 1) := by decide +kernel
theorem dX12_reading_80 : decode cX12_reading 80 = .ok (.aload_n 0, 1) := by decide +kernel
theorem dX12_reading_81 : decode cX12_reading 81 = .ok (.getfield 7, 3) := by decide +kernel
theorem dX12_reading_84 : decode cX12_reading 84 = .ok (.iload 4, 2) := by decide +kernel
theorem dX12_reading_86 : decode cX12_reading 86 = .ok (.iconst 2, 1) := by decide +kernel
theorem dX12_reading_87 : decode cX12_reading 87 = .ok (.iadd, 1) := by decide +kernel
theorem dX12_reading_88 : decode cX12_reading 88 = .ok (.iload_n 3, 1) := by decide +kernel
theorem dX12_reading_89 : decode cX12_reading 89 = .ok (.iastore, 1) := by decide +kernel
theorem dX12_reading_90 : decode cX12_reading 90 = .ok (.aload_n 0, 1) := by decide +kernel
theorem dX12_reading_91 : decode cX12_reading 91 = .ok (.getfield 7, 3) := by decide +kernel
theorem dX12_reading_94 : decode cX12_reading 94 = .ok (.iconst 4, 1) := by decide +kernel
theorem dX12_reading_95 : decode cX12_reading 95 = .ok (.dup2, 1) := by decide +kernel
theorem dX12_reading_96 : decode cX12_reading 96 = .ok (.iaload, 1) := by decide +kernel
theorem dX12_reading_97 : decode cX12_reading 97 = .ok (.iconst 1, 1) := by decide +kernel
theorem dX12_reading_98 : decode cX12_reading 98 = .ok (.iadd, 1) := by decide +kernel
theorem dX12_reading_99 : decode cX12_reading 99 = .ok (.iastore, 1) := by decide +kernel
theorem dX12_reading_100 : decode cX12_reading 100 = .ok (.aload_n 0, 1) := by decide +kernel
theorem dX12_reading_101 : decode cX12_reading 101 = .ok (.getfield 7, 3) := by decide +kernel
theorem dX12_reading_104 : decode cX12_reading 104 = .ok (.iconst 4, 1) := by decide +kernel
theorem dX12_reading_105 : decode cX12_reading 105 = .ok (.iaload, 1) := by decide +kernel
theorem dX12_reading_106 : decode cX12_reading 106 = .ok (.ireturn, 1) := by decide +kernel
theorem dX12_forget_0 : decode cX12_forget 0 = .ok (.aload_n 0, 1) := by decide +kernel
theorem dX12_forget_1 : decode cX12_forget 1 = .ok (.getfield 7, 3) := by decide +kernel
theorem dX12_forget_4 : decode cX12_forget 4 = .ok (.iconst 4, 1) := by decide +kernel
theorem dX12_forget_5 : decode cX12_forget 5 = .ok (.iaload, 1) := by decide +kernel
theorem dX12_forget_6 : decode cX12_forget 6 = .ok (.istore_n 1, 1) := by decide +kernel
theorem dX12_forget_7 : decode cX12_forget 7 = .ok (.aload_n 0, 1) := by decide +kernel
theorem dX12_forget_8 : decode cX12_forget 8 = .ok (.getfield 7, 3) := by decide +kernel
theorem dX12_forget_11 : decode cX12_forget 11 = .ok (.iconst 4, 1) := by decide +kernel
theorem dX12_forget_12 : decode cX12_forget 12 = .ok (.iconst 0, 1) := by decide +kernel
theorem dX12_forget_13 : decode cX12_forget 13 = .ok (.iastore, 1) := by decide +kernel
theorem dX12_forget_14 : decode cX12_forget 14 = .ok (.iload_n 1, 1) := by decide +kernel
theorem dX12_forget_15 : decode cX12_forget 15 = .ok (.ireturn, 1) := by decide +kernel
theorem dX12_areSo_0 : decode cX12_areSo 0 = .ok (.iconst 1, 1) := by decide +kernel
theorem dX12_areSo_1 : decode cX12_areSo 1 = .ok (.istore_n 1, 1) := by decide +kernel
theorem dX12_areSo_2 : decode cX12_areSo 2 = .ok (.iconst 0, 1) := by decide +kernel
theorem dX12_areSo_3 : decode cX12_areSo 3 = .ok (.istore_n 2, 1) := by decide +kernel
theorem dX12_areSo_4 : decode cX12_areSo 4 = .ok (.iload_n 2, 1) := by decide +kernel
theorem dX12_areSo_5 : decode cX12_areSo 5 = .ok (.aload_n 0, 1) := by decide +kernel
theorem dX12_areSo_6 : decode cX12_areSo 6 = .ok (.getfield 7, 3) := by decide +kernel
theorem dX12_areSo_9 : decode cX12_areSo 9 = .ok (.iconst 4, 1) := by decide +kernel
theorem dX12_areSo_10 : decode cX12_areSo 10 = .ok (.iaload, 1) := by decide +kernel
theorem dX12_areSo_11 : decode cX12_areSo 11 = .ok (.if_icmp .ge 55, 3) := by decide +kernel
theorem dX12_areSo_14 : decode cX12_areSo 14 = .ok (.iload_n 1, 1) := by decide +kernel
theorem dX12_areSo_15 : decode cX12_areSo 15 = .ok (.ifCond .eq 51, 3) := by decide +kernel
theorem dX12_areSo_18 : decode cX12_areSo 18 = .ok (.bipush 56, 2) := by decide +kernel
theorem dX12_areSo_20 : decode cX12_areSo 20 = .ok (.iconst 3, 1) := by decide +kernel
theorem dX12_areSo_21 : decode cX12_areSo 21 = .ok (.iload_n 2, 1) := by decide +kernel
theorem dX12_areSo_22 : decode cX12_areSo 22 = .ok (.imul, 1) := by decide +kernel
theorem dX12_areSo_23 : decode cX12_areSo 23 = .ok (.iadd, 1) := by decide +kernel
theorem dX12_areSo_24 : decode cX12_areSo 24 = .ok (.istore_n 3, 1) := by decide +kernel
theorem dX12_areSo_25 : decode cX12_areSo 25 = .ok (.aload_n 0, 1) := by decide +kernel
theorem dX12_areSo_26 : decode cX12_areSo 26 = .ok (.aload_n 0, 1) := by decide +kernel
theorem dX12_areSo_27 : decode cX12_areSo 27 = .ok (.getfield 7, 3) := by decide +kernel
theorem dX12_areSo_30 : decode cX12_areSo 30 = .ok (.iload_n 3, 1) := by decide +kernel
theorem dX12_areSo_31 : decode cX12_areSo 31 = .ok (.iaload, 1) := by decide +kernel
theorem dX12_areSo_32 : decode cX12_areSo 32 = .ok (.aload_n 0, 1) := by decide +kernel
theorem dX12_areSo_33 : decode cX12_areSo 33 = .ok (.getfield 7, 3) := by decide +kernel
theorem dX12_areSo_36 : decode cX12_areSo 36 = .ok (.iload_n 3, 1) := by decide +kernel
theorem dX12_areSo_37 : decode cX12_areSo 37 = .ok (.iconst 1, 1) := by decide +kernel
theorem dX12_areSo_38 : decode cX12_areSo 38 = .ok (.iadd, 1) := by decide +kernel
theorem dX12_areSo_39 : decode cX12_areSo 39 = .ok (.iaload, 1) := by decide +kernel
theorem dX12_areSo_40 : decode cX12_areSo 40 = .ok (.invokevirtual 159, 3) := by decide +kernel
theorem dX12_areSo_43 : decode cX12_areSo 43 = .ok (.aload_n 0, 1) := by decide +kernel
theorem dX12_areSo_44 : decode cX12_areSo 44 = .ok (.getfield 7, 3) := by decide +kernel
theorem dX12_areSo_47 : decode cX12_areSo 47 = .ok (.iload_n 3, 1) := by decide +kernel
theorem dX12_areSo_48 : decode cX12_areSo 48 = .ok (.iconst 2, 1) := by decide +kernel
theorem dX12_areSo_49 : decode cX12_areSo 49 = .ok (.iadd, 1) := by decide +kernel
theorem dX12_areSo_50 : decode cX12_areSo 50 = .ok (.iaload, 1) := by decide +kernel
theorem dX12_areSo_51 : decode cX12_areSo 51 = .ok (.if_icmp .ne 7, 3) := by decide +kernel
theorem dX12_areSo_54 : decode cX12_areSo 54 = .ok (.iconst 1, 1) := by decide +kernel
theorem dX12_areSo_55 : decode cX12_areSo 55 = .ok (.goto 4, 3) := by decide +kernel
theorem dX12_areSo_58 : decode cX12_areSo 58 = .ok (.iconst 0, 1) := by decide +kernel
theorem dX12_areSo_59 : decode cX12_areSo 59 = .ok (.istore_n 1, 1) := by decide +kernel
theorem dX12_areSo_60 : decode cX12_areSo 60 = .ok (.iinc 2 1, 3) := by decide +kernel
theorem dX12_areSo_63 : decode cX12_areSo 63 = .ok (.goto (-59), 3) := by decide +kernel
theorem dX12_areSo_66 : decode cX12_areSo 66 = .ok (.iload_n 1, 1) := by decide +kernel
theorem dX12_areSo_67 : decode cX12_areSo 67 = .ok (.ireturn, 1) := by decide +kernel
theorem dX12_out_0 : decode cX12_out 0 = .ok (.iload_n 1, 1) := by decide +kernel
theorem dX12_out_1 : decode cX12_out 1 = .ok (.i2l, 1) := by decide +kernel
theorem dX12_out_2 : decode cX12_out 2 = .ok (.lconst 0, 1) := by decide +kernel
theorem dX12_out_3 : decode cX12_out 3 = .ok (.lconst 1, 1) := by decide +kernel
theorem dX12_out_4 : decode cX12_out 4 = .ok (.invokestatic 65, 3) := by decide +kernel
theorem dX12_out_7 : decode cX12_out 7 = .ok (.ifCond .ne 10, 3) := by decide +kernel
theorem dX12_out_10 : decode cX12_out 10 = .ok (.aload_n 0, 1) := by decide +kernel
theorem dX12_out_11 : decode cX12_out 11 = .ok (.bipush (-10), 2) := by decide +kernel
theorem dX12_out_13 : decode cX12_out 13 = .ok (.invokevirtual 75, 3) := by decide +kernel
theorem dX12_out_16 : decode cX12_out 16 = .ok (.ireturn, 1) := by decide +kernel
theorem dX12_out_17 : decode cX12_out 17 = .ok (.iconst 0, 1) := by decide +kernel
theorem dX12_out_18 : decode cX12_out 18 = .ok (.istore_n 2, 1) := by decide +kernel
theorem dX12_out_19 : decode cX12_out 19 = .ok (.aload_n 0, 1) := by decide +kernel
theorem dX12_out_20 : decode cX12_out 20 = .ok (.invokevirtual 152, 3) := by decide +kernel
theorem dX12_out_23 : decode cX12_out 23 = .ok (.istore_n 3, 1) := by decide +kernel
theorem dX12_out_24 : decode cX12_out 24 = .ok (.iconst 0, 1) := by decide +kernel
theorem dX12_out_25 : decode cX12_out 25 = .ok (.istore 4, 2) := by decide +kernel
theorem dX12_out_27 : decode cX12_out 27 = .ok (.iload 4, 2) := by decide +kernel
theorem dX12_out_29 : decode cX12_out 29 = .ok (.aload_n 0, 1) := by decide +kernel
theorem dX12_out_30 : decode cX12_out 30 = .ok (.invokevirtual 152, 3) := by decide +kernel
theorem dX12_out_33 : decode cX12_out 33 = .ok (.if_icmp .gt 48, 3) := by decide +kernel
theorem dX12_out_36 : decode cX12_out 36 = .ok (.aload_n 0, 1) := by decide +kernel
theorem dX12_out_37 : decode cX12_out 37 = .ok (.iload 4, 2) := by decide +kernel
theorem dX12_out_39 : decode cX12_out 39 = .ok (.invokevirtual 155, 3) := by decide +kernel
theorem dX12_out_42 : decode cX12_out 42 = .ok (.aload_n 0, 1) := by decide +kernel
theorem dX12_out_43 : decode cX12_out 43 = .ok (.invokevirtual 195, 3) := by decide +kernel
theorem dX12_out_46 : decode cX12_out 46 = .ok (.istore 5, 2) := by decide +kernel
theorem dX12_out_48 : decode cX12_out 48 = .ok (.iload_n 2, 1) := by decide +kernel
theorem dX12_out_49 : decode cX12_out 49 = .ok (.iload 5, 2) := by decide +kernel
theorem dX12_out_51 : decode cX12_out 51 = .ok (.ifCond .eq 7, 3) := by decide +kernel
theorem dX12_out_54 : decode cX12_out 54 = .ok (.iconst 1, 1) := by decide +kernel
theorem dX12_out_55 : decode cX12_out 55 = .ok (.goto 4, 3) := by decide +kernel
theorem dX12_out_58 : decode cX12_out 58 = .ok (.iconst 0, 1) := by decide +kernel
theorem dX12_out_59 : decode cX12_out 59 = .ok (.iadd, 1) := by decide +kernel
theorem dX12_out_60 : decode cX12_out 60 = .ok (.istore_n 2, 1) := by decide +kernel
theorem dX12_out_61 : decode cX12_out 61 = .ok (.iload_n 3, 1) := by decide +kernel
theorem dX12_out_62 : decode cX12_out 62 = .ok (.iload 5, 2) := by decide +kernel
theorem dX12_out_64 : decode cX12_out 64 = .ok (.ifCond .eq 8, 3) := by decide +kernel
theorem dX12_out_67 : decode cX12_out 67 = .ok (.iload 4, 2) := by decide +kernel
theorem dX12_out_69 : decode cX12_out 69 = .ok (.goto 4, 3) := by decide +kernel
theorem dX12_out_72 : decode cX12_out 72 = .ok (.iconst (-1), 1) := by decide +kernel
theorem dX12_out_73 : decode cX12_out 73 = .ok (.iand, 1) := by decide +kernel
theorem dX12_out_74 : decode cX12_out 74 = .ok (.istore_n 3, 1) := by decide +kernel
theorem dX12_out_75 : decode cX12_out 75 = .ok (.iinc 4 1, 3) := by decide +kernel
theorem dX12_out_78 : decode cX12_out 78 = .ok (.goto (-51), 3) := by decide +kernel
theorem dX12_out_81 : decode cX12_out 81 = .ok (.iload_n 1, 1) := by decide +kernel
theorem dX12_out_82 : decode cX12_out 82 = .ok (.ifCond .ne 7, 3) := by decide +kernel
theorem dX12_out_85 : decode cX12_out 85 = .ok (.iload_n 2, 1) := by decide +kernel
theorem dX12_out_86 : decode cX12_out 86 = .ok (.goto 12, 3) := by decide +kernel
theorem dX12_out_89 : decode cX12_out 89 = .ok (.iload_n 2, 1) := by decide +kernel
theorem dX12_out_90 : decode cX12_out 90 = .ok (.ifCond .ne 7, 3) := by decide +kernel
theorem dX12_out_93 : decode cX12_out 93 = .ok (.iconst (-1), 1) := by decide +kernel
theorem dX12_out_94 : decode cX12_out 94 = .ok (.goto 4, 3) := by decide +kernel
theorem dX12_out_97 : decode cX12_out 97 = .ok (.iload_n 3, 1) := by decide +kernel
theorem dX12_out_98 : decode cX12_out 98 = .ok (.ireturn, 1) := by decide +kernel
theorem dX12_mostLike_0 : decode cX12_mostLike 0 = .ok (.iconst 0, 1) := by decide +kernel
theorem dX12_mostLike_1 : decode cX12_mostLike 1 = .ok (.istore_n 3, 1) := by decide +kernel
theorem dX12_mostLike_2 : decode cX12_mostLike 2 = .ok (.iconst 0, 1) := by decide +kernel
theorem dX12_mostLike_3 : decode cX12_mostLike 3 = .ok (.istore 4, 2) := by decide +kernel
theorem dX12_mostLike_5 : decode cX12_mostLike 5 = .ok (.iload 4, 2) := by decide +kernel
theorem dX12_mostLike_7 : decode cX12_mostLike 7 = .ok (.bipush 10, 2) := by decide +kernel
theorem dX12_mostLike_9 : decode cX12_mostLike 9 = .ok (.if_icmp .ge 17, 3) := by decide +kernel
theorem dX12_mostLike_12 : decode cX12_mostLike 12 = .ok (.aload_n 0, 1) := by decide +kernel
theorem dX12_mostLike_13 : decode cX12_mostLike 13 = .ok (.getfield 45, 3) := by decide +kernel
theorem dX12_mostLike_16 : decode cX12_mostLike 16 = .ok (.iload 4, 2) := by decide +kernel
theorem dX12_mostLike_18 : decode cX12_mostLike 18 = .ok (.iconst 0, 1) := by decide +kernel
theorem dX12_mostLike_19 : decode cX12_mostLike 19 = .ok (.iastore, 1) := by decide +kernel
theorem dX12_mostLike_20 : decode cX12_mostLike 20 = .ok (.iinc 4 1, 3) := by decide +kernel
theorem dX12_mostLike_23 : decode cX12_mostLike 23 = .ok (.goto (-18), 3) := by decide +kernel
theorem dX12_mostLike_26 : decode cX12_mostLike 26 = .ok (.iconst 0, 1) := by decide +kernel
theorem dX12_mostLike_27 : decode cX12_mostLike 27 = .ok (.istore 4, 2) := by decide +kernel
theorem dX12_mostLike_29 : decode cX12_mostLike 29 = .ok (.iload 4, 2) := by decide +kernel
theorem dX12_mostLike_31 : decode cX12_mostLike 31 = .ok (.aload_n 0, 1) := by decide +kernel
theorem dX12_mostLike_32 : decode cX12_mostLike 32 = .ok (.invokevirtual 152, 3) := by decide +kernel
theorem dX12_mostLike_35 : decode cX12_mostLike 35 = .ok (.if_icmp .gt 56, 3) := by decide +kernel
theorem dX12_mostLike_38 : decode cX12_mostLike 38 = .ok (.aload_n 0, 1) := by decide +kernel
theorem dX12_mostLike_39 : decode cX12_mostLike 39 = .ok (.getfield 42, 3) := by decide +kernel
theorem dX12_mostLike_42 : decode cX12_mostLike 42 = .ok (.iload 4, 2) := by decide +kernel
theorem dX12_mostLike_44 : decode cX12_mostLike 44 = .ok (.baload, 1) := by decide +kernel
theorem dX12_mostLike_45 : decode cX12_mostLike 45 = .ok (.ifCond .eq 40, 3) := by decide +kernel
theorem dX12_mostLike_48 : decode cX12_mostLike 48 = .ok (.aload_n 0, 1) := by decide +kernel
theorem dX12_mostLike_49 : decode cX12_mostLike 49 = .ok (.iload 4, 2) := by decide +kernel
theorem dX12_mostLike_51 : decode cX12_mostLike 51 = .ok (.invokevirtual 155, 3) := by decide +kernel
theorem dX12_mostLike_54 : decode cX12_mostLike 54 = .ok (.aload_n 0, 1) := by decide +kernel
theorem dX12_mostLike_55 : decode cX12_mostLike 55 = .ok (.iload_n 1, 1) := by decide +kernel
theorem dX12_mostLike_56 : decode cX12_mostLike 56 = .ok (.iload_n 2, 1) := by decide +kernel
theorem dX12_mostLike_57 : decode cX12_mostLike 57 = .ok (.invokevirtual 159, 3) := by decide +kernel
theorem dX12_mostLike_60 : decode cX12_mostLike 60 = .ok (.istore 5, 2) := by decide +kernel
theorem dX12_mostLike_62 : decode cX12_mostLike 62 = .ok (.aload_n 0, 1) := by decide +kernel
theorem dX12_mostLike_63 : decode cX12_mostLike 63 = .ok (.getfield 45, 3) := by decide +kernel
theorem dX12_mostLike_66 : decode cX12_mostLike 66 = .ok (.iload 5, 2) := by decide +kernel
theorem dX12_mostLike_68 : decode cX12_mostLike 68 = .ok (.dup2, 1) := by decide +kernel
theorem dX12_mostLike_69 : decode cX12_mostLike 69 = .ok (.iaload, 1) := by decide +kernel
theorem dX12_mostLike_70 : decode cX12_mostLike 70 = .ok (.iconst 1, 1) := by decide +kernel
theorem dX12_mostLike_71 : decode cX12_mostLike 71 = .ok (.iadd, 1) := by decide +kernel
theorem dX12_mostLike_72 : decode cX12_mostLike 72 = .ok (.iastore, 1) := by decide +kernel
theorem dX12_mostLike_73 : decode cX12_mostLike 73 = .ok (.iload_n 3, 1) := by decide +kernel
theorem dX12_mostLike_74 : decode cX12_mostLike 74 = .ok (.aload_n 0, 1) := by decide +kernel
theorem dX12_mostLike_75 : decode cX12_mostLike 75 = .ok (.getfield 45, 3) := by decide +kernel
theorem dX12_mostLike_78 : decode cX12_mostLike 78 = .ok (.iload 5, 2) := by decide +kernel
theorem dX12_mostLike_80 : decode cX12_mostLike 80 = .ok (.iaload, 1) := by decide +kernel
theorem dX12_mostLike_81 : decode cX12_mostLike 81 = .ok (.invokestatic 122, 3) := by decide +kernel
theorem dX12_mostLike_84 : decode cX12_mostLike 84 = .ok (.istore_n 3, 1) := by decide +kernel
theorem dX12_mostLike_85 : decode cX12_mostLike 85 = .ok (.iinc 4 1, 3) := by decide +kernel
theorem dX12_mostLike_88 : decode cX12_mostLike 88 = .ok (.goto (-59), 3) := by decide +kernel
theorem dX12_mostLike_91 : decode cX12_mostLike 91 = .ok (.iload_n 3, 1) := by decide +kernel
theorem dX12_mostLike_92 : decode cX12_mostLike 92 = .ok (.ireturn, 1) := by decide +kernel
theorem dX12_look_0 : decode cX12_look 0 = .ok (.iload_n 1, 1) := by decide +kernel
theorem dX12_look_1 : decode cX12_look 1 = .ok (.invokestatic 149, 3) := by decide +kernel
theorem dX12_look_4 : decode cX12_look 4 = .ok (.ifCond .ne 10, 3) := by decide +kernel
theorem dX12_look_7 : decode cX12_look 7 = .ok (.aload_n 0, 1) := by decide +kernel
theorem dX12_look_8 : decode cX12_look 8 = .ok (.bipush (-2), 2) := by decide +kernel
theorem dX12_look_10 : decode cX12_look 10 = .ok (.invokevirtual 75, 3) := by decide +kernel
theorem dX12_look_13 : decode cX12_look 13 = .ok (.ireturn, 1) := by decide +kernel
theorem dX12_look_14 : decode cX12_look 14 = .ok (.iconst 0, 1) := by decide +kernel
theorem dX12_look_15 : decode cX12_look 15 = .ok (.istore_n 2, 1) := by decide +kernel
theorem dX12_look_16 : decode cX12_look 16 = .ok (.iconst 0, 1) := by decide +kernel
theorem dX12_look_17 : decode cX12_look 17 = .ok (.istore_n 3, 1) := by decide +kernel
theorem dX12_look_18 : decode cX12_look 18 = .ok (.iload_n 3, 1) := by decide +kernel
theorem dX12_look_19 : decode cX12_look 19 = .ok (.aload_n 0, 1) := by decide +kernel
theorem dX12_look_20 : decode cX12_look 20 = .ok (.invokevirtual 152, 3) := by decide +kernel
theorem dX12_look_23 : decode cX12_look 23 = .ok (.if_icmp .gt 41, 3) := by decide +kernel
theorem dX12_look_26 : decode cX12_look 26 = .ok (.aload_n 0, 1) := by decide +kernel
theorem dX12_look_27 : decode cX12_look 27 = .ok (.iload_n 3, 1) := by decide +kernel
theorem dX12_look_28 : decode cX12_look 28 = .ok (.invokevirtual 155, 3) := by decide +kernel
theorem dX12_look_31 : decode cX12_look 31 = .ok (.aload_n 0, 1) := by decide +kernel
theorem dX12_look_32 : decode cX12_look 32 = .ok (.getfield 42, 3) := by decide +kernel
theorem dX12_look_35 : decode cX12_look 35 = .ok (.iload_n 3, 1) := by decide +kernel
theorem dX12_look_36 : decode cX12_look 36 = .ok (.aload_n 0, 1) := by decide +kernel
theorem dX12_look_37 : decode cX12_look 37 = .ok (.invokevirtual 195, 3) := by decide +kernel
theorem dX12_look_40 : decode cX12_look 40 = .ok (.bastore, 1) := by decide +kernel
theorem dX12_look_41 : decode cX12_look 41 = .ok (.iload_n 2, 1) := by decide +kernel
theorem dX12_look_42 : decode cX12_look 42 = .ok (.aload_n 0, 1) := by decide +kernel
theorem dX12_look_43 : decode cX12_look 43 = .ok (.getfield 42, 3) := by decide +kernel
theorem dX12_look_46 : decode cX12_look 46 = .ok (.iload_n 3, 1) := by decide +kernel
theorem dX12_look_47 : decode cX12_look 47 = .ok (.baload, 1) := by decide +kernel
theorem dX12_look_48 : decode cX12_look 48 = .ok (.ifCond .eq 7, 3) := by decide +kernel
theorem dX12_look_51 : decode cX12_look 51 = .ok (.iconst 1, 1) := by decide +kernel
theorem dX12_look_52 : decode cX12_look 52 = .ok (.goto 4, 3) := by decide +kernel
theorem dX12_look_55 : decode cX12_look 55 = .ok (.iconst 0, 1) := by decide +kernel
theorem dX12_look_56 : decode cX12_look 56 = .ok (.iadd, 1) := by decide +kernel
theorem dX12_look_57 : decode cX12_look 57 = .ok (.istore_n 2, 1) := by decide +kernel
theorem dX12_look_58 : decode cX12_look 58 = .ok (.iinc 3 1, 3) := by decide +kernel
theorem dX12_look_61 : decode cX12_look 61 = .ok (.goto (-43), 3) := by decide +kernel
theorem dX12_look_64 : decode cX12_look 64 = .ok (.iconst (-1), 1) := by decide +kernel
theorem dX12_look_65 : decode cX12_look 65 = .ok (.istore_n 3, 1) := by decide +kernel
theorem dX12_look_66 : decode cX12_look 66 = .ok (.ldc 139, 2) := by decide +kernel
theorem dX12_look_68 : decode cX12_look 68 = .ok (.istore 4, 2) := by decide +kernel
theorem dX12_look_70 : decode cX12_look 70 = .ok (.iconst 0, 1) := by decide +kernel
theorem dX12_look_71 : decode cX12_look 71 = .ok (.istore 5, 2) := by decide +kernel
theorem dX12_look_73 : decode cX12_look 73 = .ok (.iload 5, 2) := by decide +kernel
theorem dX12_look_75 : decode cX12_look 75 = .ok (.bipush 47, 2) := by decide +kernel
theorem dX12_look_77 : decode cX12_look 77 = .ok (.if_icmp .gt 45, 3) := by decide +kernel
theorem dX12_look_80 : decode cX12_look 80 = .ok (.iload_n 2, 1) := by decide +kernel
theorem dX12_look_81 : decode cX12_look 81 = .ok (.ifCond .le 41, 3) := by decide +kernel
theorem dX12_look_84 : decode cX12_look 84 = .ok (.aload_n 0, 1) := by decide +kernel
theorem dX12_look_85 : decode cX12_look 85 = .ok (.iload 5, 2) := by decide +kernel
theorem dX12_look_87 : decode cX12_look 87 = .ok (.iload_n 1, 1) := by decide +kernel
theorem dX12_look_88 : decode cX12_look 88 = .ok (.invokevirtual 199, 3) := by decide +kernel
theorem dX12_look_91 : decode cX12_look 91 = .ok (.istore 6, 2) := by decide +kernel
theorem dX12_look_93 : decode cX12_look 93 = .ok (.iload 6, 2) := by decide +kernel
theorem dX12_look_95 : decode cX12_look 95 = .ok (.iload 4, 2) := by decide +kernel
theorem dX12_look_97 : decode cX12_look 97 = .ok (.if_icmp .ge 8, 3) := by decide +kernel
theorem dX12_look_100 : decode cX12_look 100 = .ok (.iload 5, 2) := by decide +kernel
theorem dX12_look_102 : decode cX12_look 102 = .ok (.goto 4, 3) := by decide +kernel
theorem dX12_look_105 : decode cX12_look 105 = .ok (.iload_n 3, 1) := by decide +kernel
theorem dX12_look_106 : decode cX12_look 106 = .ok (.istore_n 3, 1) := by decide +kernel
theorem dX12_look_107 : decode cX12_look 107 = .ok (.iload 4, 2) := by decide +kernel
theorem dX12_look_109 : decode cX12_look 109 = .ok (.iload 6, 2) := by decide +kernel
theorem dX12_look_111 : decode cX12_look 111 = .ok (.invokestatic 119, 3) := by decide +kernel
theorem dX12_look_114 : decode cX12_look 114 = .ok (.istore 4, 2) := by decide +kernel
theorem dX12_look_116 : decode cX12_look 116 = .ok (.iinc 5 1, 3) := by decide +kernel
theorem dX12_look_119 : decode cX12_look 119 = .ok (.goto (-46), 3) := by decide +kernel
theorem dX12_look_122 : decode cX12_look 122 = .ok (.iload_n 3, 1) := by decide +kernel
theorem dX12_look_123 : decode cX12_look 123 = .ok (.ireturn, 1) := by decide +kernel
theorem dX12_dolls_0 : decode cX12_dolls 0 = .ok (.iconst 0, 1) := by decide +kernel
theorem dX12_dolls_1 : decode cX12_dolls 1 = .ok (.istore_n 1, 1) := by decide +kernel
theorem dX12_dolls_2 : decode cX12_dolls 2 = .ok (.iconst 0, 1) := by decide +kernel
theorem dX12_dolls_3 : decode cX12_dolls 3 = .ok (.istore_n 2, 1) := by decide +kernel
theorem dX12_dolls_4 : decode cX12_dolls 4 = .ok (.iload_n 2, 1) := by decide +kernel
theorem dX12_dolls_5 : decode cX12_dolls 5 = .ok (.aload_n 0, 1) := by decide +kernel
theorem dX12_dolls_6 : decode cX12_dolls 6 = .ok (.invokevirtual 61, 3) := by decide +kernel
theorem dX12_dolls_9 : decode cX12_dolls 9 = .ok (.if_icmp .ge 41, 3) := by decide +kernel
theorem dX12_dolls_12 : decode cX12_dolls 12 = .ok (.aload_n 0, 1) := by decide +kernel
theorem dX12_dolls_13 : decode cX12_dolls 13 = .ok (.aload_n 0, 1) := by decide +kernel
theorem dX12_dolls_14 : decode cX12_dolls 14 = .ok (.invokevirtual 152, 3) := by decide +kernel
theorem dX12_dolls_17 : decode cX12_dolls 17 = .ok (.invokevirtual 155, 3) := by decide +kernel
theorem dX12_dolls_20 : decode cX12_dolls 20 = .ok (.aload_n 0, 1) := by decide +kernel
theorem dX12_dolls_21 : decode cX12_dolls 21 = .ok (.getfield 27, 3) := by decide +kernel
theorem dX12_dolls_24 : decode cX12_dolls 24 = .ok (.iload_n 2, 1) := by decide +kernel
theorem dX12_dolls_25 : decode cX12_dolls 25 = .ok (.iconst 5, 1) := by decide +kernel
theorem dX12_dolls_26 : decode cX12_dolls 26 = .ok (.iastore, 1) := by decide +kernel
theorem dX12_dolls_27 : decode cX12_dolls 27 = .ok (.iload_n 1, 1) := by decide +kernel
theorem dX12_dolls_28 : decode cX12_dolls 28 = .ok (.aload_n 0, 1) := by decide +kernel
theorem dX12_dolls_29 : decode cX12_dolls 29 = .ok (.invokevirtual 195, 3) := by decide +kernel
theorem dX12_dolls_32 : decode cX12_dolls 32 = .ok (.ifCond .eq 9, 3) := by decide +kernel
theorem dX12_dolls_35 : decode cX12_dolls 35 = .ok (.iconst 1, 1) := by decide +kernel
theorem dX12_dolls_36 : decode cX12_dolls 36 = .ok (.iload_n 2, 1) := by decide +kernel
theorem dX12_dolls_37 : decode cX12_dolls 37 = .ok (.ishl, 1) := by decide +kernel
theorem dX12_dolls_38 : decode cX12_dolls 38 = .ok (.goto 4, 3) := by decide +kernel
theorem dX12_dolls_41 : decode cX12_dolls 41 = .ok (.iconst 0, 1) := by decide +kernel
theorem dX12_dolls_42 : decode cX12_dolls 42 = .ok (.ior, 1) := by decide +kernel
theorem dX12_dolls_43 : decode cX12_dolls 43 = .ok (.istore_n 1, 1) := by decide +kernel
theorem dX12_dolls_44 : decode cX12_dolls 44 = .ok (.iinc 2 1, 3) := by decide +kernel
theorem dX12_dolls_47 : decode cX12_dolls 47 = .ok (.goto (-43), 3) := by decide +kernel
theorem dX12_dolls_50 : decode cX12_dolls 50 = .ok (.iload_n 1, 1) := by decide +kernel
theorem dX12_dolls_51 : decode cX12_dolls 51 = .ok (.ireturn, 1) := by decide +kernel
theorem dX12_fraction_0 : decode cX12_fraction 0 = .ok (.iload_n 1, 1) := by decide +kernel
theorem dX12_fraction_1 : decode cX12_fraction 1 = .ok (.istore_n 3, 1) := by decide +kernel
theorem dX12_fraction_2 : decode cX12_fraction 2 = .ok (.iload_n 2, 1) := by decide +kernel
theorem dX12_fraction_3 : decode cX12_fraction 3 = .ok (.istore 4, 2) := by decide +kernel
theorem dX12_fraction_5 : decode cX12_fraction 5 = .ok (.iload 4, 2) := by decide +kernel
theorem dX12_fraction_7 : decode cX12_fraction 7 = .ok (.ifCond .eq 19, 3) := by decide +kernel
theorem dX12_fraction_10 : decode cX12_fraction 10 = .ok (.iload_n 3, 1) := by decide +kernel
theorem dX12_fraction_11 : decode cX12_fraction 11 = .ok (.iload 4, 2) := by decide +kernel
theorem dX12_fraction_13 : decode cX12_fraction 13 = .ok (.irem, 1) := by decide +kernel
theorem dX12_fraction_14 : decode cX12_fraction 14 = .ok (.istore 5, 2) := by decide +kernel
theorem dX12_fraction_16 : decode cX12_fraction 16 = .ok (.iload 4, 2) := by decide +kernel
theorem dX12_fraction_18 : decode cX12_fraction 18 = .ok (.istore_n 3, 1) := by decide +kernel
theorem dX12_fraction_19 : decode cX12_fraction 19 = .ok (.iload 5, 2) := by decide +kernel
theorem dX12_fraction_21 : decode cX12_fraction 21 = .ok (.istore 4, 2) := by decide +kernel
theorem dX12_fraction_23 : decode cX12_fraction 23 = .ok (.goto (-18), 3) := by decide +kernel
theorem dX12_fraction_26 : decode cX12_fraction 26 = .ok (.aload_n 0, 1) := by decide +kernel
theorem dX12_fraction_27 : decode cX12_fraction 27 = .ok (.iload_n 1, 1) := by decide +kernel
theorem dX12_fraction_28 : decode cX12_fraction 28 = .ok (.iload_n 3, 1) := by decide +kernel
theorem dX12_fraction_29 : decode cX12_fraction 29 = .ok (.idiv, 1) := by decide +kernel
theorem dX12_fraction_30 : decode cX12_fraction 30 = .ok (.i2l, 1) := by decide +kernel
theorem dX12_fraction_31 : decode cX12_fraction 31 = .ok (.putfield 202, 3) := by decide +kernel
theorem dX12_fraction_34 : decode cX12_fraction 34 = .ok (.aload_n 0, 1) := by decide +kernel
theorem dX12_fraction_35 : decode cX12_fraction 35 = .ok (.iload_n 2, 1) := by decide +kernel
theorem dX12_fraction_36 : decode cX12_fraction 36 = .ok (.iload_n 3, 1) := by decide +kernel
theorem dX12_fraction_37 : decode cX12_fraction 37 = .ok (.idiv, 1) := by decide +kernel
theorem dX12_fraction_38 : decode cX12_fraction 38 = .ok (.i2l, 1) := by decide +kernel
theorem dX12_fraction_39 : decode cX12_fraction 39 = .ok (.putfield 23, 3) := by decide +kernel
theorem dX12_fraction_42 : decode cX12_fraction 42 = .ok (.return_, 1) := by decide +kernel
theorem dX12_days_0 : decode cX12_days 0 = .ok (.iload_n 1, 1) := by decide +kernel
theorem dX12_days_1 : decode cX12_days 1 = .ok (.i2l, 1) := by decide +kernel
theorem dX12_days_2 : decode cX12_days 2 = .ok (.lconst 0, 1) := by decide +kernel
theorem dX12_days_3 : decode cX12_days 3 = .ok (.ldc2_w 205, 3) := by decide +kernel
theorem dX12_days_6 : decode cX12_days 6 = .ok (.invokestatic 65, 3) := by decide +kernel
theorem dX12_days_9 : decode cX12_days 9 = .ok (.ifCond .eq 27, 3) := by decide +kernel
theorem dX12_days_12 : decode cX12_days 12 = .ok (.iload_n 2, 1) := by decide +kernel
theorem dX12_days_13 : decode cX12_days 13 = .ok (.i2l, 1) := by decide +kernel
theorem dX12_days_14 : decode cX12_days 14 = .ok (.lconst 0, 1) := by decide +kernel
theorem dX12_days_15 : decode cX12_days 15 = .ok (.ldc2_w 207, 3) := by decide +kernel
theorem dX12_days_18 : decode cX12_days 18 = .ok (.invokestatic 65, 3) := by decide +kernel
theorem dX12_days_21 : decode cX12_days 21 = .ok (.ifCond .eq 15, 3) := by decide +kernel
theorem dX12_days_24 : decode cX12_days 24 = .ok (.iload_n 3, 1) := by decide +kernel
theorem dX12_days_25 : decode cX12_days 25 = .ok (.i2l, 1) := by decide +kernel
theorem dX12_days_26 : decode cX12_days 26 = .ok (.lconst 0, 1) := by decide +kernel
theorem dX12_days_27 : decode cX12_days 27 = .ok (.ldc2_w 209, 3) := by decide +kernel
theorem dX12_days_30 : decode cX12_days 30 = .ok (.invokestatic 65, 3) := by decide +kernel
theorem dX12_days_33 : decode cX12_days 33 = .ok (.ifCond .ne 10, 3) := by decide +kernel
theorem dX12_days_36 : decode cX12_days 36 = .ok (.aload_n 0, 1) := by decide +kernel
theorem dX12_days_37 : decode cX12_days 37 = .ok (.bipush (-2), 2) := by decide +kernel
theorem dX12_days_39 : decode cX12_days 39 = .ok (.invokevirtual 75, 3) := by decide +kernel
theorem dX12_days_42 : decode cX12_days 42 = .ok (.ireturn, 1) := by decide +kernel
theorem dX12_days_43 : decode cX12_days 43 = .ok (.iload_n 2, 1) := by decide +kernel
theorem dX12_days_44 : decode cX12_days 44 = .ok (.ifCond .ne 8, 3) := by decide +kernel
theorem dX12_days_47 : decode cX12_days 47 = .ok (.aload_n 0, 1) := by decide +kernel
theorem dX12_days_48 : decode cX12_days 48 = .ok (.invokevirtual 112, 3) := by decide +kernel
theorem dX12_days_51 : decode cX12_days 51 = .ok (.ireturn, 1) := by decide +kernel
theorem dX12_days_52 : decode cX12_days 52 = .ok (.iload_n 1, 1) := by decide +kernel
theorem dX12_days_53 : decode cX12_days 53 = .ok (.i2l, 1) := by decide +kernel
theorem dX12_days_54 : decode cX12_days 54 = .ok (.lstore 4, 2) := by decide +kernel
theorem dX12_days_56 : decode cX12_days 56 = .ok (.iconst 0, 1) := by decide +kernel
theorem dX12_days_57 : decode cX12_days 57 = .ok (.istore 6, 2) := by decide +kernel
theorem dX12_days_59 : decode cX12_days 59 = .ok (.iconst 0, 1) := by decide +kernel
theorem dX12_days_60 : decode cX12_days 60 = .ok (.istore 7, 2) := by decide +kernel
theorem dX12_days_62 : decode cX12_days 62 = .ok (.iload 7, 2) := by decide +kernel
theorem dX12_days_64 : decode cX12_days 64 = .ok (.iload_n 2, 1) := by decide +kernel
theorem dX12_days_65 : decode cX12_days 65 = .ok (.if_icmp .ge 98, 3) := by decide +kernel
theorem dX12_days_68 : decode cX12_days 68 = .ok (.iconst 0, 1) := by decide +kernel
theorem dX12_days_69 : decode cX12_days 69 = .ok (.istore 8, 2) := by decide +kernel
theorem dX12_days_71 : decode cX12_days 71 = .ok (.iconst 0, 1) := by decide +kernel
theorem dX12_days_72 : decode cX12_days 72 = .ok (.istore 9, 2) := by decide +kernel
theorem dX12_days_74 : decode cX12_days 74 = .ok (.iload 9, 2) := by decide +kernel
theorem dX12_days_76 : decode cX12_days 76 = .ok (.aload_n 0, 1) := by decide +kernel
theorem dX12_days_77 : decode cX12_days 77 = .ok (.invokevirtual 61, 3) := by decide +kernel
theorem dX12_days_80 : decode cX12_days 80 = .ok (.if_icmp .ge 54, 3) := by decide +kernel
theorem dX12_days_83 : decode cX12_days 83 = .ok (.lload 4, 2) := by decide +kernel
theorem dX12_days_85 : decode cX12_days 85 = .ok (.ldc2_w 211, 3) := by decide +kernel
theorem dX12_days_88 : decode cX12_days 88 = .ok (.lmul, 1) := by decide +kernel
theorem dX12_days_89 : decode cX12_days 89 = .ok (.ldc2_w 213, 3) := by decide +kernel
theorem dX12_days_92 : decode cX12_days 92 = .ok (.ladd, 1) := by decide +kernel
theorem dX12_days_93 : decode cX12_days 93 = .ok (.ldc2_w 215, 3) := by decide +kernel
theorem dX12_days_96 : decode cX12_days 96 = .ok (.lrem, 1) := by decide +kernel
theorem dX12_days_97 : decode cX12_days 97 = .ok (.lstore 4, 2) := by decide +kernel
theorem dX12_days_99 : decode cX12_days 99 = .ok (.iload 8, 2) := by decide +kernel
theorem dX12_days_101 : decode cX12_days 101 = .ok (.lload 4, 2) := by decide +kernel
theorem dX12_days_103 : decode cX12_days 103 = .ok (.ldc2_w 217, 3) := by decide +kernel
theorem dX12_days_106 : decode cX12_days 106 = .ok (.ldiv, 1) := by decide +kernel
theorem dX12_days_107 : decode cX12_days 107 = .ok (.ldc2_w 209, 3) := by decide +kernel
theorem dX12_days_110 : decode cX12_days 110 = .ok (.lrem, 1) := by decide +kernel
theorem dX12_days_111 : decode cX12_days 111 = .ok (.iload_n 3, 1) := by decide +kernel
theorem dX12_days_112 : decode cX12_days 112 = .ok (.i2l, 1) := by decide +kernel
theorem dX12_days_113 : decode cX12_days 113 = .ok (.lcmp, 1) := by decide +kernel
theorem dX12_days_114 : decode cX12_days 114 = .ok (.ifCond .ge 10, 3) := by decide +kernel
theorem dX12_days_117 : decode cX12_days 117 = .ok (.iconst 1, 1) := by decide +kernel
theorem dX12_days_118 : decode cX12_days 118 = .ok (.iload 9, 2) := by decide +kernel
theorem dX12_days_120 : decode cX12_days 120 = .ok (.ishl, 1) := by decide +kernel
theorem dX12_days_121 : decode cX12_days 121 = .ok (.goto 4, 3) := by decide +kernel
theorem dX12_days_124 : decode cX12_days 124 = .ok (.iconst 0, 1) := by decide +kernel
theorem dX12_days_125 : decode cX12_days 125 = .ok (.ior, 1) := by decide +kernel
theorem dX12_days_126 : decode cX12_days 126 = .ok (.istore 8, 2) := by decide +kernel
theorem dX12_days_128 : decode cX12_days 128 = .ok (.iinc 9 1, 3) := by decide +kernel
theorem dX12_days_131 : decode cX12_days 131 = .ok (.goto (-57), 3) := by decide +kernel
theorem dX12_days_134 : decode cX12_days 134 = .ok (.aload_n 0, 1) := by decide +kernel
theorem dX12_days_135 : decode cX12_days 135 = .ok (.aload_n 0, 1) := by decide +kernel
theorem dX12_days_136 : decode cX12_days 136 = .ok (.invokevirtual 152, 3) := by decide +kernel
theorem dX12_days_139 : decode cX12_days 139 = .ok (.iload 8, 2) := by decide +kernel
theorem dX12_days_141 : decode cX12_days 141 = .ok (.iconst (-1), 1) := by decide +kernel
theorem dX12_days_142 : decode cX12_days 142 = .ok (.ixor, 1) := by decide +kernel
theorem dX12_days_143 : decode cX12_days 143 = .ok (.iand, 1) := by decide +kernel
theorem dX12_days_144 : decode cX12_days 144 = .ok (.invokevirtual 155, 3) := by decide +kernel
theorem dX12_days_147 : decode cX12_days 147 = .ok (.iload 6, 2) := by decide +kernel
theorem dX12_days_149 : decode cX12_days 149 = .ok (.aload_n 0, 1) := by decide +kernel
theorem dX12_days_150 : decode cX12_days 150 = .ok (.iconst 0, 1) := by decide +kernel
theorem dX12_days_151 : decode cX12_days 151 = .ok (.invokevirtual 165, 3) := by decide +kernel
theorem dX12_days_154 : decode cX12_days 154 = .ok (.iadd, 1) := by decide +kernel
theorem dX12_days_155 : decode cX12_days 155 = .ok (.istore 6, 2) := by decide +kernel
theorem dX12_days_157 : decode cX12_days 157 = .ok (.iinc 7 1, 3) := by decide +kernel
theorem dX12_days_160 : decode cX12_days 160 = .ok (.goto (-98), 3) := by decide +kernel
theorem dX12_days_163 : decode cX12_days 163 = .ok (.aload_n 0, 1) := by decide +kernel
theorem dX12_days_164 : decode cX12_days 164 = .ok (.iload 6, 2) := by decide +kernel
theorem dX12_days_166 : decode cX12_days 166 = .ok (.iload_n 2, 1) := by decide +kernel
theorem dX12_days_167 : decode cX12_days 167 = .ok (.invokevirtual 219, 3) := by decide +kernel
theorem dX12_days_170 : decode cX12_days 170 = .ok (.iconst 1, 1) := by decide +kernel
theorem dX12_days_171 : decode cX12_days 171 = .ok (.ireturn, 1) := by decide +kernel
theorem dX12_type_0 : decode cX12_type 0 = .ok (.iload_n 1, 1) := by decide +kernel
theorem dX12_type_1 : decode cX12_type 1 = .ok (.i2l, 1) := by decide +kernel
theorem dX12_type_2 : decode cX12_type 2 = .ok (.lconst 0, 1) := by decide +kernel
theorem dX12_type_3 : decode cX12_type 3 = .ok (.ldc2_w 223, 3) := by decide +kernel
theorem dX12_type_6 : decode cX12_type 6 = .ok (.invokestatic 65, 3) := by decide +kernel
theorem dX12_type_9 : decode cX12_type 9 = .ok (.ifCond .ne 10, 3) := by decide +kernel
theorem dX12_type_12 : decode cX12_type 12 = .ok (.aload_n 0, 1) := by decide +kernel
theorem dX12_type_13 : decode cX12_type 13 = .ok (.bipush (-2), 2) := by decide +kernel
theorem dX12_type_15 : decode cX12_type 15 = .ok (.invokevirtual 75, 3) := by decide +kernel
theorem dX12_type_18 : decode cX12_type 18 = .ok (.ireturn, 1) := by decide +kernel
theorem dX12_type_19 : decode cX12_type 19 = .ok (.aload_n 0, 1) := by decide +kernel
theorem dX12_type_20 : decode cX12_type 20 = .ok (.getfield 225, 3) := by decide +kernel
theorem dX12_type_23 : decode cX12_type 23 = .ok (.sipush 150, 3) := by decide +kernel
theorem dX12_type_26 : decode cX12_type 26 = .ok (.if_icmp .ne 8, 3) := by decide +kernel
theorem dX12_type_29 : decode cX12_type 29 = .ok (.aload_n 0, 1) := by decide +kernel
theorem dX12_type_30 : decode cX12_type 30 = .ok (.invokevirtual 91, 3) := by decide +kernel
theorem dX12_type_33 : decode cX12_type 33 = .ok (.ireturn, 1) := by decide +kernel
theorem dX12_type_34 : decode cX12_type 34 = .ok (.aload_n 0, 1) := by decide +kernel
theorem dX12_type_35 : decode cX12_type 35 = .ok (.getfield 48, 3) := by decide +kernel
theorem dX12_type_38 : decode cX12_type 38 = .ok (.aload_n 0, 1) := by decide +kernel
theorem dX12_type_39 : decode cX12_type 39 = .ok (.getfield 225, 3) := by decide +kernel
theorem dX12_type_42 : decode cX12_type 42 = .ok (.iload_n 1, 1) := by decide +kernel
theorem dX12_type_43 : decode cX12_type 43 = .ok (.iastore, 1) := by decide +kernel
theorem dX12_type_44 : decode cX12_type 44 = .ok (.aload_n 0, 1) := by decide +kernel
theorem dX12_type_45 : decode cX12_type 45 = .ok (.dup, 1) := by decide +kernel
theorem dX12_type_46 : decode cX12_type 46 = .ok (.getfield 225, 3) := by decide +kernel
theorem dX12_type_49 : decode cX12_type 49 = .ok (.iconst 1, 1) := by decide +kernel
theorem dX12_type_50 : decode cX12_type 50 = .ok (.iadd, 1) := by decide +kernel
theorem dX12_type_51 : decode cX12_type 51 = .ok (.putfield 225, 3) := by decide +kernel
theorem dX12_type_54 : decode cX12_type 54 = .ok (.aload_n 0, 1) := by decide +kernel
theorem dX12_type_55 : decode cX12_type 55 = .ok (.getfield 225, 3) := by decide +kernel
theorem dX12_type_58 : decode cX12_type 58 = .ok (.ireturn, 1) := by decide +kernel
theorem dX12_clear_0 : decode cX12_clear 0 = .ok (.aload_n 0, 1) := by decide +kernel
theorem dX12_clear_1 : decode cX12_clear 1 = .ok (.getfield 225, 3) := by decide +kernel
theorem dX12_clear_4 : decode cX12_clear 4 = .ok (.istore_n 1, 1) := by decide +kernel
theorem dX12_clear_5 : decode cX12_clear 5 = .ok (.aload_n 0, 1) := by decide +kernel
theorem dX12_clear_6 : decode cX12_clear 6 = .ok (.iconst 0, 1) := by decide +kernel
theorem dX12_clear_7 : decode cX12_clear 7 = .ok (.putfield 225, 3) := by decide +kernel
theorem dX12_clear_10 : decode cX12_clear 10 = .ok (.iload_n 1, 1) := by decide +kernel
theorem dX12_clear_11 : decode cX12_clear 11 = .ok (.ireturn, 1) := by decide +kernel
theorem dX12_isSmall_0 : decode cX12_isSmall 0 = .ok (.iload_n 0, 1) := by decide +kernel
theorem dX12_isSmall_1 : decode cX12_isSmall 1 = .ok (.i2l, 1) := by decide +kernel
theorem dX12_isSmall_2 : decode cX12_isSmall 2 = .ok (.ldc2_w 228, 3) := by decide +kernel
theorem dX12_isSmall_5 : decode cX12_isSmall 5 = .ok (.ldc2_w 230, 3) := by decide +kernel
theorem dX12_isSmall_8 : decode cX12_isSmall 8 = .ok (.invokestatic 65, 3) := by decide +kernel
theorem dX12_isSmall_11 : decode cX12_isSmall 11 = .ok (.ireturn, 1) := by decide +kernel
theorem dX12_isFigure_0 : decode cX12_isFigure 0 = .ok (.iload_n 0, 1) := by decide +kernel
theorem dX12_isFigure_1 : decode cX12_isFigure 1 = .ok (.i2l, 1) := by decide +kernel
theorem dX12_isFigure_2 : decode cX12_isFigure 2 = .ok (.ldc2_w 232, 3) := by decide +kernel
theorem dX12_isFigure_5 : decode cX12_isFigure 5 = .ok (.ldc2_w 234, 3) := by decide +kernel
theorem dX12_isFigure_8 : decode cX12_isFigure 8 = .ok (.invokestatic 65, 3) := by decide +kernel
theorem dX12_isFigure_11 : decode cX12_isFigure 11 = .ok (.ireturn, 1) := by decide +kernel
theorem dX12_lookAt_0 : decode cX12_lookAt 0 = .ok (.aload_n 0, 1) := by decide +kernel
theorem dX12_lookAt_1 : decode cX12_lookAt 1 = .ok (.iload_n 1, 1) := by decide +kernel
theorem dX12_lookAt_2 : decode cX12_lookAt 2 = .ok (.putfield 236, 3) := by decide +kernel
theorem dX12_lookAt_5 : decode cX12_lookAt 5 = .ok (.aload_n 0, 1) := by decide +kernel
theorem dX12_lookAt_6 : decode cX12_lookAt 6 = .ok (.getfield 236, 3) := by decide +kernel
theorem dX12_lookAt_9 : decode cX12_lookAt 9 = .ok (.aload_n 0, 1) := by decide +kernel
theorem dX12_lookAt_10 : decode cX12_lookAt 10 = .ok (.getfield 225, 3) := by decide +kernel
theorem dX12_lookAt_13 : decode cX12_lookAt 13 = .ok (.if_icmp .ge 30, 3) := by decide +kernel
theorem dX12_lookAt_16 : decode cX12_lookAt 16 = .ok (.aload_n 0, 1) := by decide +kernel
theorem dX12_lookAt_17 : decode cX12_lookAt 17 = .ok (.getfield 48, 3) := by decide +kernel
theorem dX12_lookAt_20 : decode cX12_lookAt 20 = .ok (.aload_n 0, 1) := by decide +kernel
theorem dX12_lookAt_21 : decode cX12_lookAt 21 = .ok (.getfield 236, 3) := by decide +kernel
theorem dX12_lookAt_24 : decode cX12_lookAt 24 = .ok (.iaload, 1) := by decide +kernel
theorem dX12_lookAt_25 : decode cX12_lookAt 25 = .ok (.bipush 32, 2) := by decide +kernel
theorem dX12_lookAt_27 : decode cX12_lookAt 27 = .ok (.if_icmp .ne 16, 3) := by decide +kernel
theorem dX12_lookAt_30 : decode cX12_lookAt 30 = .ok (.aload_n 0, 1) := by decide +kernel
theorem dX12_lookAt_31 : decode cX12_lookAt 31 = .ok (.dup, 1) := by decide +kernel
theorem dX12_lookAt_32 : decode cX12_lookAt 32 = .ok (.getfield 236, 3) := by decide +kernel
theorem dX12_lookAt_35 : decode cX12_lookAt 35 = .ok (.iconst 1, 1) := by decide +kernel
theorem dX12_lookAt_36 : decode cX12_lookAt 36 = .ok (.iadd, 1) := by decide +kernel
theorem dX12_lookAt_37 : decode cX12_lookAt 37 = .ok (.putfield 236, 3) := by decide +kernel
theorem dX12_lookAt_40 : decode cX12_lookAt 40 = .ok (.goto (-35), 3) := by decide +kernel
theorem dX12_lookAt_43 : decode cX12_lookAt 43 = .ok (.aload_n 0, 1) := by decide +kernel
theorem dX12_lookAt_44 : decode cX12_lookAt 44 = .ok (.iconst 0, 1) := by decide +kernel
theorem dX12_lookAt_45 : decode cX12_lookAt 45 = .ok (.putfield 239, 3) := by decide +kernel
theorem dX12_lookAt_48 : decode cX12_lookAt 48 = .ok (.aload_n 0, 1) := by decide +kernel
theorem dX12_lookAt_49 : decode cX12_lookAt 49 = .ok (.iconst 0, 1) := by decide +kernel
theorem dX12_lookAt_50 : decode cX12_lookAt 50 = .ok (.putfield 242, 3) := by decide +kernel
theorem dX12_lookAt_53 : decode cX12_lookAt 53 = .ok (.aload_n 0, 1) := by decide +kernel
theorem dX12_lookAt_54 : decode cX12_lookAt 54 = .ok (.iconst 0, 1) := by decide +kernel
theorem dX12_lookAt_55 : decode cX12_lookAt 55 = .ok (.putfield 245, 3) := by decide +kernel
theorem dX12_lookAt_58 : decode cX12_lookAt 58 = .ok (.aload_n 0, 1) := by decide +kernel
theorem dX12_lookAt_59 : decode cX12_lookAt 59 = .ok (.getfield 236, 3) := by decide +kernel
theorem dX12_lookAt_62 : decode cX12_lookAt 62 = .ok (.aload_n 0, 1) := by decide +kernel
theorem dX12_lookAt_63 : decode cX12_lookAt 63 = .ok (.getfield 225, 3) := by decide +kernel
theorem dX12_lookAt_66 : decode cX12_lookAt 66 = .ok (.if_icmp .ne 4, 3) := by decide +kernel
theorem dX12_lookAt_69 : decode cX12_lookAt 69 = .ok (.return_, 1) := by decide +kernel
theorem dX12_lookAt_70 : decode cX12_lookAt 70 = .ok (.aload_n 0, 1) := by decide +kernel
theorem dX12_lookAt_71 : decode cX12_lookAt 71 = .ok (.getfield 48, 3) := by decide +kernel
theorem dX12_lookAt_74 : decode cX12_lookAt 74 = .ok (.aload_n 0, 1) := by decide +kernel
theorem dX12_lookAt_75 : decode cX12_lookAt 75 = .ok (.getfield 236, 3) := by decide +kernel
theorem dX12_lookAt_78 : decode cX12_lookAt 78 = .ok (.iaload, 1) := by decide +kernel
theorem dX12_lookAt_79 : decode cX12_lookAt 79 = .ok (.istore_n 2, 1) := by decide +kernel
theorem dX12_lookAt_80 : decode cX12_lookAt 80 = .ok (.aload_n 0, 1) := by decide +kernel
theorem dX12_lookAt_81 : decode cX12_lookAt 81 = .ok (.iload_n 2, 1) := by decide +kernel
theorem dX12_lookAt_82 : decode cX12_lookAt 82 = .ok (.invokestatic 248, 3) := by decide +kernel
theorem dX12_lookAt_85 : decode cX12_lookAt 85 = .ok (.ifCond .eq 7, 3) := by decide +kernel
theorem dX12_lookAt_88 : decode cX12_lookAt 88 = .ok (.iconst 1, 1) := by decide +kernel
theorem dX12_lookAt_89 : decode cX12_lookAt 89 = .ok (.goto 25, 3) := by decide +kernel
theorem dX12_lookAt_92 : decode cX12_lookAt 92 = .ok (.iload_n 2, 1) := by decide +kernel
theorem dX12_lookAt_93 : decode cX12_lookAt 93 = .ok (.invokestatic 251, 3) := by decide +kernel
theorem dX12_lookAt_96 : decode cX12_lookAt 96 = .ok (.ifCond .eq 7, 3) := by decide +kernel
theorem dX12_lookAt_99 : decode cX12_lookAt 99 = .ok (.iconst 2, 1) := by decide +kernel
theorem dX12_lookAt_100 : decode cX12_lookAt 100 = .ok (.goto 14, 3) := by decide +kernel
theorem dX12_lookAt_103 : decode cX12_lookAt 103 = .ok (.iload_n 2, 1) := by decide +kernel
theorem dX12_lookAt_104 : decode cX12_lookAt 104 = .ok (.bipush 59, 2) := by decide +kernel
theorem dX12_lookAt_106 : decode cX12_lookAt 106 = .ok (.if_icmp .ne 7, 3) := by decide +kernel
theorem dX12_lookAt_109 : decode cX12_lookAt 109 = .ok (.iconst 3, 1) := by decide +kernel
theorem dX12_lookAt_110 : decode cX12_lookAt 110 = .ok (.goto 4, 3) := by decide +kernel
theorem dX12_lookAt_113 : decode cX12_lookAt 113 = .ok (.iconst 4, 1) := by decide +kernel
theorem dX12_lookAt_114 : decode cX12_lookAt 114 = .ok (.putfield 242, 3) := by decide +kernel
theorem dX12_lookAt_117 : decode cX12_lookAt 117 = .ok (.aload_n 0, 1) := by decide +kernel
theorem dX12_lookAt_118 : decode cX12_lookAt 118 = .ok (.iconst 1, 1) := by decide +kernel
theorem dX12_lookAt_119 : decode cX12_lookAt 119 = .ok (.putfield 239, 3) := by decide +kernel
theorem dX12_lookAt_122 : decode cX12_lookAt 122 = .ok (.aload_n 0, 1) := by decide +kernel
theorem dX12_lookAt_123 : decode cX12_lookAt 123 = .ok (.getfield 242, 3) := by decide +kernel
theorem dX12_lookAt_126 : decode cX12_lookAt 126 = .ok (.iconst 3, 1) := by decide +kernel
theorem dX12_lookAt_127 : decode cX12_lookAt 127 = .ok (.if_icmp .ge 7, 3) := by decide +kernel
theorem dX12_lookAt_130 : decode cX12_lookAt 130 = .ok (.iconst 1, 1) := by decide +kernel
theorem dX12_lookAt_131 : decode cX12_lookAt 131 = .ok (.goto 4, 3) := by decide +kernel
theorem dX12_lookAt_134 : decode cX12_lookAt 134 = .ok (.iconst 0, 1) := by decide +kernel
theorem dX12_lookAt_135 : decode cX12_lookAt 135 = .ok (.istore_n 3, 1) := by decide +kernel
theorem dX12_lookAt_136 : decode cX12_lookAt 136 = .ok (.iload_n 3, 1) := by decide +kernel
theorem dX12_lookAt_137 : decode cX12_lookAt 137 = .ok (.ifCond .eq 78, 3) := by decide +kernel
theorem dX12_lookAt_140 : decode cX12_lookAt 140 = .ok (.aload_n 0, 1) := by decide +kernel
theorem dX12_lookAt_141 : decode cX12_lookAt 141 = .ok (.getfield 236, 3) := by decide +kernel
theorem dX12_lookAt_144 : decode cX12_lookAt 144 = .ok (.aload_n 0, 1) := by decide +kernel
theorem dX12_lookAt_145 : decode cX12_lookAt 145 = .ok (.getfield 239, 3) := by decide +kernel
theorem dX12_lookAt_148 : decode cX12_lookAt 148 = .ok (.iadd, 1) := by decide +kernel
theorem dX12_lookAt_149 : decode cX12_lookAt 149 = .ok (.aload_n 0, 1) := by decide +kernel
theorem dX12_lookAt_150 : decode cX12_lookAt 150 = .ok (.getfield 225, 3) := by decide +kernel
theorem dX12_lookAt_153 : decode cX12_lookAt 153 = .ok (.if_icmp .ge 62, 3) := by decide +kernel
theorem dX12_lookAt_156 : decode cX12_lookAt 156 = .ok (.aload_n 0, 1) := by decide +kernel
theorem dX12_lookAt_157 : decode cX12_lookAt 157 = .ok (.getfield 48, 3) := by decide +kernel
theorem dX12_lookAt_160 : decode cX12_lookAt 160 = .ok (.aload_n 0, 1) := by decide +kernel
theorem dX12_lookAt_161 : decode cX12_lookAt 161 = .ok (.getfield 236, 3) := by decide +kernel
theorem dX12_lookAt_164 : decode cX12_lookAt 164 = .ok (.aload_n 0, 1) := by decide +kernel
theorem dX12_lookAt_165 : decode cX12_lookAt 165 = .ok (.getfield 239, 3) := by decide +kernel
theorem dX12_lookAt_168 : decode cX12_lookAt 168 = .ok (.iadd, 1) := by decide +kernel
theorem dX12_lookAt_169 : decode cX12_lookAt 169 = .ok (.iaload, 1) := by decide +kernel
theorem dX12_lookAt_170 : decode cX12_lookAt 170 = .ok (.istore 4, 2) := by decide +kernel
theorem dX12_lookAt_172 : decode cX12_lookAt 172 = .ok (.aload_n 0, 1) := by decide +kernel
theorem dX12_lookAt_173 : decode cX12_lookAt 173 = .ok (.getfield 242, 3) := by decide +kernel
theorem dX12_lookAt_176 : decode cX12_lookAt 176 = .ok (.iconst 1, 1) := by decide +kernel
theorem dX12_lookAt_177 : decode cX12_lookAt 177 = .ok (.if_icmp .ne 11, 3) := by decide +kernel
theorem dX12_lookAt_180 : decode cX12_lookAt 180 = .ok (.iload 4, 2) := by decide +kernel
theorem dX12_lookAt_182 : decode cX12_lookAt 182 = .ok (.invokestatic 248, 3) := by decide +kernel
theorem dX12_lookAt_185 : decode cX12_lookAt 185 = .ok (.goto 8, 3) := by decide +kernel
theorem dX12_lookAt_188 : decode cX12_lookAt 188 = .ok (.iload 4, 2) := by decide +kernel
theorem dX12_lookAt_190 : decode cX12_lookAt 190 = .ok (.invokestatic 251, 3) := by decide +kernel
theorem dX12_lookAt_193 : decode cX12_lookAt 193 = .ok (.istore_n 3, 1) := by decide +kernel
theorem dX12_lookAt_194 : decode cX12_lookAt 194 = .ok (.aload_n 0, 1) := by decide +kernel
theorem dX12_lookAt_195 : decode cX12_lookAt 195 = .ok (.dup, 1) := by decide +kernel
theorem dX12_lookAt_196 : decode cX12_lookAt 196 = .ok (.getfield 239, 3) := by decide +kernel
theorem dX12_lookAt_199 : decode cX12_lookAt 199 = .ok (.iload_n 3, 1) := by decide +kernel
theorem dX12_lookAt_200 : decode cX12_lookAt 200 = .ok (.ifCond .eq 7, 3) := by decide +kernel
theorem dX12_lookAt_203 : decode cX12_lookAt 203 = .ok (.iconst 1, 1) := by decide +kernel
theorem dX12_lookAt_204 : decode cX12_lookAt 204 = .ok (.goto 4, 3) := by decide +kernel
theorem dX12_lookAt_207 : decode cX12_lookAt 207 = .ok (.iconst 0, 1) := by decide +kernel
theorem dX12_lookAt_208 : decode cX12_lookAt 208 = .ok (.iadd, 1) := by decide +kernel
theorem dX12_lookAt_209 : decode cX12_lookAt 209 = .ok (.putfield 239, 3) := by decide +kernel
theorem dX12_lookAt_212 : decode cX12_lookAt 212 = .ok (.goto (-76), 3) := by decide +kernel
theorem dX12_lookAt_215 : decode cX12_lookAt 215 = .ok (.iconst 0, 1) := by decide +kernel
theorem dX12_lookAt_216 : decode cX12_lookAt 216 = .ok (.istore 4, 2) := by decide +kernel
theorem dX12_lookAt_218 : decode cX12_lookAt 218 = .ok (.iload 4, 2) := by decide +kernel
theorem dX12_lookAt_220 : decode cX12_lookAt 220 = .ok (.aload_n 0, 1) := by decide +kernel
theorem dX12_lookAt_221 : decode cX12_lookAt 221 = .ok (.getfield 239, 3) := by decide +kernel
theorem dX12_lookAt_224 : decode cX12_lookAt 224 = .ok (.if_icmp .ge 50, 3) := by decide +kernel
theorem dX12_lookAt_227 : decode cX12_lookAt 227 = .ok (.iload 4, 2) := by decide +kernel
theorem dX12_lookAt_229 : decode cX12_lookAt 229 = .ok (.iconst 2, 1) := by decide +kernel
theorem dX12_lookAt_230 : decode cX12_lookAt 230 = .ok (.if_icmp .ge 44, 3) := by decide +kernel
theorem dX12_lookAt_233 : decode cX12_lookAt 233 = .ok (.aload_n 0, 1) := by decide +kernel
theorem dX12_lookAt_234 : decode cX12_lookAt 234 = .ok (.getfield 242, 3) := by decide +kernel
theorem dX12_lookAt_237 : decode cX12_lookAt 237 = .ok (.iconst 2, 1) := by decide +kernel
theorem dX12_lookAt_238 : decode cX12_lookAt 238 = .ok (.if_icmp .ne 36, 3) := by decide +kernel
theorem dX12_lookAt_241 : decode cX12_lookAt 241 = .ok (.aload_n 0, 1) := by decide +kernel
theorem dX12_lookAt_242 : decode cX12_lookAt 242 = .ok (.bipush 10, 2) := by decide +kernel
theorem dX12_lookAt_244 : decode cX12_lookAt 244 = .ok (.aload_n 0, 1) := by decide +kernel
theorem dX12_lookAt_245 : decode cX12_lookAt 245 = .ok (.getfield 245, 3) := by decide +kernel
theorem dX12_lookAt_248 : decode cX12_lookAt 248 = .ok (.imul, 1) := by decide +kernel
theorem dX12_lookAt_249 : decode cX12_lookAt 249 = .ok (.aload_n 0, 1) := by decide +kernel
theorem dX12_lookAt_250 : decode cX12_lookAt 250 = .ok (.getfield 48, 3) := by decide +kernel
theorem dX12_lookAt_253 : decode cX12_lookAt 253 = .ok (.aload_n 0, 1) := by decide +kernel
theorem dX12_lookAt_254 : decode cX12_lookAt 254 = .ok (.getfield 236, 3) := by decide +kernel
theorem dX12_lookAt_257 : decode cX12_lookAt 257 = .ok (.iload 4, 2) := by decide +kernel
theorem dX12_lookAt_259 : decode cX12_lookAt 259 = .ok (.iadd, 1) := by decide +kernel
theorem dX12_lookAt_260 : decode cX12_lookAt 260 = .ok (.iaload, 1) := by decide +kernel
theorem dX12_lookAt_261 : decode cX12_lookAt 261 = .ok (.iadd, 1) := by decide +kernel
theorem dX12_lookAt_262 : decode cX12_lookAt 262 = .ok (.bipush 48, 2) := by decide +kernel
theorem dX12_lookAt_264 : decode cX12_lookAt 264 = .ok (.isub, 1) := by decide +kernel
theorem dX12_lookAt_265 : decode cX12_lookAt 265 = .ok (.putfield 245, 3) := by decide +kernel
theorem dX12_lookAt_268 : decode cX12_lookAt 268 = .ok (.iinc 4 1, 3) := by decide +kernel
theorem dX12_lookAt_271 : decode cX12_lookAt 271 = .ok (.goto (-53), 3) := by decide +kernel
theorem dX12_lookAt_274 : decode cX12_lookAt 274 = .ok (.aload_n 0, 1) := by decide +kernel
theorem dX12_lookAt_275 : decode cX12_lookAt 275 = .ok (.aload_n 0, 1) := by decide +kernel
theorem dX12_lookAt_276 : decode cX12_lookAt 276 = .ok (.getfield 242, 3) := by decide +kernel
theorem dX12_lookAt_279 : decode cX12_lookAt 279 = .ok (.iconst 2, 1) := by decide +kernel
theorem dX12_lookAt_280 : decode cX12_lookAt 280 = .ok (.if_icmp .ne 15, 3) := by decide +kernel
theorem dX12_lookAt_283 : decode cX12_lookAt 283 = .ok (.aload_n 0, 1) := by decide +kernel
theorem dX12_lookAt_284 : decode cX12_lookAt 284 = .ok (.getfield 239, 3) := by decide +kernel
theorem dX12_lookAt_287 : decode cX12_lookAt 287 = .ok (.iconst 2, 1) := by decide +kernel
theorem dX12_lookAt_288 : decode cX12_lookAt 288 = .ok (.if_icmp .le 7, 3) := by decide +kernel
theorem dX12_lookAt_291 : decode cX12_lookAt 291 = .ok (.iconst 4, 1) := by decide +kernel
theorem dX12_lookAt_292 : decode cX12_lookAt 292 = .ok (.goto 7, 3) := by decide +kernel
theorem dX12_lookAt_295 : decode cX12_lookAt 295 = .ok (.aload_n 0, 1) := by decide +kernel
theorem dX12_lookAt_296 : decode cX12_lookAt 296 = .ok (.getfield 242, 3) := by decide +kernel
theorem dX12_lookAt_299 : decode cX12_lookAt 299 = .ok (.putfield 242, 3) := by decide +kernel
theorem dX12_lookAt_302 : decode cX12_lookAt 302 = .ok (.return_, 1) := by decide +kernel
theorem dX12_goBehind_0 : decode cX12_goBehind 0 = .ok (.aload_n 0, 1) := by decide +kernel
theorem dX12_goBehind_1 : decode cX12_goBehind 1 = .ok (.aload_n 0, 1) := by decide +kernel
theorem dX12_goBehind_2 : decode cX12_goBehind 2 = .ok (.getfield 236, 3) := by decide +kernel
theorem dX12_goBehind_5 : decode cX12_goBehind 5 = .ok (.aload_n 0, 1) := by decide +kernel
theorem dX12_goBehind_6 : decode cX12_goBehind 6 = .ok (.getfield 239, 3) := by decide +kernel
theorem dX12_goBehind_9 : decode cX12_goBehind 9 = .ok (.iadd, 1) := by decide +kernel
theorem dX12_goBehind_10 : decode cX12_goBehind 10 = .ok (.invokevirtual 254, 3) := by decide +kernel
theorem dX12_goBehind_13 : decode cX12_goBehind 13 = .ok (.return_, 1) := by decide +kernel
theorem dX12_isCalled_0 : decode cX12_isCalled 0 = .ok (.aload_n 0, 1) := by decide +kernel
theorem dX12_isCalled_1 : decode cX12_isCalled 1 = .ok (.getfield 242, 3) := by decide +kernel
theorem dX12_isCalled_4 : decode cX12_isCalled 4 = .ok (.iconst 1, 1) := by decide +kernel
theorem dX12_isCalled_5 : decode cX12_isCalled 5 = .ok (.if_icmp .ne 15, 3) := by decide +kernel
theorem dX12_isCalled_8 : decode cX12_isCalled 8 = .ok (.aload_n 0, 1) := by decide +kernel
theorem dX12_isCalled_9 : decode cX12_isCalled 9 = .ok (.getfield 239, 3) := by decide +kernel
theorem dX12_isCalled_12 : decode cX12_isCalled 12 = .ok (.iload_n 1, 1) := by decide +kernel
theorem dX12_isCalled_13 : decode cX12_isCalled 13 = .ok (.if_icmp .ne 7, 3) := by decide +kernel
theorem dX12_isCalled_16 : decode cX12_isCalled 16 = .ok (.iconst 1, 1) := by decide +kernel
theorem dX12_isCalled_17 : decode cX12_isCalled 17 = .ok (.goto 4, 3) := by decide +kernel
theorem dX12_isCalled_20 : decode cX12_isCalled 20 = .ok (.iconst 0, 1) := by decide +kernel
theorem dX12_isCalled_21 : decode cX12_isCalled 21 = .ok (.istore 7, 2) := by decide +kernel
theorem dX12_isCalled_23 : decode cX12_isCalled 23 = .ok (.iconst 0, 1) := by decide +kernel
theorem dX12_isCalled_24 : decode cX12_isCalled 24 = .ok (.istore 8, 2) := by decide +kernel
theorem dX12_isCalled_26 : decode cX12_isCalled 26 = .ok (.iload 8, 2) := by decide +kernel
theorem dX12_isCalled_28 : decode cX12_isCalled 28 = .ok (.iload_n 1, 1) := by decide +kernel
theorem dX12_isCalled_29 : decode cX12_isCalled 29 = .ok (.if_icmp .ge 79, 3) := by decide +kernel
theorem dX12_isCalled_32 : decode cX12_isCalled 32 = .ok (.iload 7, 2) := by decide +kernel
theorem dX12_isCalled_34 : decode cX12_isCalled 34 = .ok (.ifCond .eq 74, 3) := by decide +kernel
theorem dX12_isCalled_37 : decode cX12_isCalled 37 = .ok (.aload_n 0, 1) := by decide +kernel
theorem dX12_isCalled_38 : decode cX12_isCalled 38 = .ok (.getfield 48, 3) := by decide +kernel
theorem dX12_isCalled_41 : decode cX12_isCalled 41 = .ok (.aload_n 0, 1) := by decide +kernel
theorem dX12_isCalled_42 : decode cX12_isCalled 42 = .ok (.getfield 236, 3) := by decide +kernel
theorem dX12_isCalled_45 : decode cX12_isCalled 45 = .ok (.iload 8, 2) := by decide +kernel
theorem dX12_isCalled_47 : decode cX12_isCalled 47 = .ok (.iadd, 1) := by decide +kernel
theorem dX12_isCalled_48 : decode cX12_isCalled 48 = .ok (.iaload, 1) := by decide +kernel
theorem dX12_isCalled_49 : decode cX12_isCalled 49 = .ok (.iload 8, 2) := by decide +kernel
theorem dX12_isCalled_51 : decode cX12_isCalled 51 = .ok (.ifCond .ne 7, 3) := by decide +kernel
theorem dX12_isCalled_54 : decode cX12_isCalled 54 = .ok (.iload_n 2, 1) := by decide +kernel
theorem dX12_isCalled_55 : decode cX12_isCalled 55 = .ok (.goto 37, 3) := by decide +kernel
theorem dX12_isCalled_58 : decode cX12_isCalled 58 = .ok (.iload 8, 2) := by decide +kernel
theorem dX12_isCalled_60 : decode cX12_isCalled 60 = .ok (.iconst 1, 1) := by decide +kernel
theorem dX12_isCalled_61 : decode cX12_isCalled 61 = .ok (.if_icmp .ne 7, 3) := by decide +kernel
theorem dX12_isCalled_64 : decode cX12_isCalled 64 = .ok (.iload_n 3, 1) := by decide +kernel
theorem dX12_isCalled_65 : decode cX12_isCalled 65 = .ok (.goto 27, 3) := by decide +kernel
theorem dX12_isCalled_68 : decode cX12_isCalled 68 = .ok (.iload 8, 2) := by decide +kernel
theorem dX12_isCalled_70 : decode cX12_isCalled 70 = .ok (.iconst 2, 1) := by decide +kernel
theorem dX12_isCalled_71 : decode cX12_isCalled 71 = .ok (.if_icmp .ne 8, 3) := by decide +kernel
theorem dX12_isCalled_74 : decode cX12_isCalled 74 = .ok (.iload 4, 2) := by decide +kernel
theorem dX12_isCalled_76 : decode cX12_isCalled 76 = .ok (.goto 16, 3) := by decide +kernel
theorem dX12_isCalled_79 : decode cX12_isCalled 79 = .ok (.iload 8, 2) := by decide +kernel
theorem dX12_isCalled_81 : decode cX12_isCalled 81 = .ok (.iconst 3, 1) := by decide +kernel
theorem dX12_isCalled_82 : decode cX12_isCalled 82 = .ok (.if_icmp .ne 8, 3) := by decide +kernel
theorem dX12_isCalled_85 : decode cX12_isCalled 85 = .ok (.iload 5, 2) := by decide +kernel
theorem dX12_isCalled_87 : decode cX12_isCalled 87 = .ok (.goto 5, 3) := by decide +kernel
theorem dX12_isCalled_90 : decode cX12_isCalled 90 = .ok (.iload 6, 2) := by decide +kernel
theorem dX12_isCalled_92 : decode cX12_isCalled 92 = .ok (.if_icmp .ne 7, 3) := by decide +kernel
theorem dX12_isCalled_95 : decode cX12_isCalled 95 = .ok (.iconst 1, 1) := by decide +kernel
theorem dX12_isCalled_96 : decode cX12_isCalled 96 = .ok (.goto 4, 3) := by decide +kernel
theorem dX12_isCalled_99 : decode cX12_isCalled 99 = .ok (.iconst 0, 1) := by decide +kernel
theorem dX12_isCalled_100 : decode cX12_isCalled 100 = .ok (.istore 7, 2) := by decide +kernel
theorem dX12_isCalled_102 : decode cX12_isCalled 102 = .ok (.iinc 8 1, 3) := by decide +kernel
theorem dX12_isCalled_105 : decode cX12_isCalled 105 = .ok (.goto (-79), 3) := by decide +kernel
theorem dX12_isCalled_108 : decode cX12_isCalled 108 = .ok (.iload 7, 2) := by decide +kernel
theorem dX12_isCalled_110 : decode cX12_isCalled 110 = .ok (.ireturn, 1) := by decide +kernel
theorem dX12_takes_0 : decode cX12_takes 0 = .ok (.aload_n 0, 1) := by decide +kernel
theorem dX12_takes_1 : decode cX12_takes 1 = .ok (.getfield 242, 3) := by decide +kernel
theorem dX12_takes_4 : decode cX12_takes 4 = .ok (.iconst 2, 1) := by decide +kernel
theorem dX12_takes_5 : decode cX12_takes 5 = .ok (.if_icmp .ne 18, 3) := by decide +kernel
theorem dX12_takes_8 : decode cX12_takes 8 = .ok (.aload_n 0, 1) := by decide +kernel
theorem dX12_takes_9 : decode cX12_takes 9 = .ok (.getfield 245, 3) := by decide +kernel
theorem dX12_takes_12 : decode cX12_takes 12 = .ok (.i2l, 1) := by decide +kernel
theorem dX12_takes_13 : decode cX12_takes 13 = .ok (.iload_n 2, 1) := by decide +kernel
theorem dX12_takes_14 : decode cX12_takes 14 = .ok (.i2l, 1) := by decide +kernel
theorem dX12_takes_15 : decode cX12_takes 15 = .ok (.iload_n 3, 1) := by decide +kernel
theorem dX12_takes_16 : decode cX12_takes 16 = .ok (.i2l, 1) := by decide +kernel
theorem dX12_takes_17 : decode cX12_takes 17 = .ok (.invokestatic 65, 3) := by decide +kernel
theorem dX12_takes_20 : decode cX12_takes 20 = .ok (.ifCond .ne 5, 3) := by decide +kernel
theorem dX12_takes_23 : decode cX12_takes 23 = .ok (.iconst 0, 1) := by decide +kernel
theorem dX12_takes_24 : decode cX12_takes 24 = .ok (.ireturn, 1) := by decide +kernel
theorem dX12_takes_25 : decode cX12_takes 25 = .ok (.aload_n 0, 1) := by decide +kernel
theorem dX12_takes_26 : decode cX12_takes 26 = .ok (.getfield 54, 3) := by decide +kernel
theorem dX12_takes_29 : decode cX12_takes 29 = .ok (.iload_n 1, 1) := by decide +kernel
theorem dX12_takes_30 : decode cX12_takes 30 = .ok (.aload_n 0, 1) := by decide +kernel
theorem dX12_takes_31 : decode cX12_takes 31 = .ok (.getfield 245, 3) := by decide +kernel
theorem dX12_takes_34 : decode cX12_takes 34 = .ok (.iastore, 1) := by decide +kernel
theorem dX12_takes_35 : decode cX12_takes 35 = .ok (.aload_n 0, 1) := by decide +kernel
theorem dX12_takes_36 : decode cX12_takes 36 = .ok (.invokevirtual 257, 3) := by decide +kernel
theorem dX12_takes_39 : decode cX12_takes 39 = .ok (.iconst 1, 1) := by decide +kernel
theorem dX12_takes_40 : decode cX12_takes 40 = .ok (.ireturn, 1) := by decide +kernel
theorem dX12_takesFirst_0 : decode cX12_takesFirst 0 = .ok (.aload_n 0, 1) := by decide +kernel
theorem dX12_takesFirst_1 : decode cX12_takesFirst 1 = .ok (.iconst 4, 1) := by decide +kernel
theorem dX12_takesFirst_2 : decode cX12_takesFirst 2 = .ok (.bipush 114, 2) := by decide +kernel
theorem dX12_takesFirst_4 : decode cX12_takesFirst 4 = .ok (.bipush 111, 2) := by decide +kernel
theorem dX12_takesFirst_6 : decode cX12_takesFirst 6 = .ok (.bipush 97, 2) := by decide +kernel
theorem dX12_takesFirst_8 : decode cX12_takesFirst 8 = .ok (.bipush 100, 2) := by decide +kernel
theorem dX12_takesFirst_10 : decode cX12_takesFirst 10 = .ok (.iconst 0, 1) := by decide +kernel
theorem dX12_takesFirst_11 : decode cX12_takesFirst 11 = .ok (.invokevirtual 260, 3) := by decide +kernel
theorem dX12_takesFirst_14 : decode cX12_takesFirst 14 = .ok (.ifCond .ne 5, 3) := by decide +kernel
theorem dX12_takesFirst_17 : decode cX12_takesFirst 17 = .ok (.iconst 0, 1) := by decide +kernel
theorem dX12_takesFirst_18 : decode cX12_takesFirst 18 = .ok (.ireturn, 1) := by decide +kernel
theorem dX12_takesFirst_19 : decode cX12_takesFirst 19 = .ok (.aload_n 0, 1) := by decide +kernel
theorem dX12_takesFirst_20 : decode cX12_takesFirst 20 = .ok (.invokevirtual 257, 3) := by decide +kernel
theorem dX12_takesFirst_23 : decode cX12_takesFirst 23 = .ok (.aload_n 0, 1) := by decide +kernel
theorem dX12_takesFirst_24 : decode cX12_takesFirst 24 = .ok (.iconst 0, 1) := by decide +kernel
theorem dX12_takesFirst_25 : decode cX12_takesFirst 25 = .ok (.iconst 0, 1) := by decide +kernel
theorem dX12_takesFirst_26 : decode cX12_takesFirst 26 = .ok (.bipush 47, 2) := by decide +kernel
theorem dX12_takesFirst_28 : decode cX12_takesFirst 28 = .ok (.invokevirtual 264, 3) := by decide +kernel
theorem dX12_takesFirst_31 : decode cX12_takesFirst 31 = .ok (.ifCond .eq 13, 3) := by decide +kernel
theorem dX12_takesFirst_34 : decode cX12_takesFirst 34 = .ok (.aload_n 0, 1) := by decide +kernel
theorem dX12_takesFirst_35 : decode cX12_takesFirst 35 = .ok (.iconst 1, 1) := by decide +kernel
theorem dX12_takesFirst_36 : decode cX12_takesFirst 36 = .ok (.iconst 0, 1) := by decide +kernel
theorem dX12_takesFirst_37 : decode cX12_takesFirst 37 = .ok (.iconst 2, 1) := by decide +kernel
theorem dX12_takesFirst_38 : decode cX12_takesFirst 38 = .ok (.invokevirtual 264, 3) := by decide +kernel
theorem dX12_takesFirst_41 : decode cX12_takesFirst 41 = .ok (.ifCond .ne 5, 3) := by decide +kernel
theorem dX12_takesFirst_44 : decode cX12_takesFirst 44 = .ok (.iconst 0, 1) := by decide +kernel
theorem dX12_takesFirst_45 : decode cX12_takesFirst 45 = .ok (.ireturn, 1) := by decide +kernel
theorem dX12_takesFirst_46 : decode cX12_takesFirst 46 = .ok (.aload_n 0, 1) := by decide +kernel
theorem dX12_takesFirst_47 : decode cX12_takesFirst 47 = .ok (.getfield 51, 3) := by decide +kernel
theorem dX12_takesFirst_50 : decode cX12_takesFirst 50 = .ok (.aload_n 0, 1) := by decide +kernel
theorem dX12_takesFirst_51 : decode cX12_takesFirst 51 = .ok (.getfield 54, 3) := by decide +kernel
theorem dX12_takesFirst_54 : decode cX12_takesFirst 54 = .ok (.iconst 0, 1) := by decide +kernel
theorem dX12_takesFirst_55 : decode cX12_takesFirst 55 = .ok (.iaload, 1) := by decide +kernel
theorem dX12_takesFirst_56 : decode cX12_takesFirst 56 = .ok (.aload_n 0, 1) := by decide +kernel
theorem dX12_takesFirst_57 : decode cX12_takesFirst 57 = .ok (.getfield 54, 3) := by decide +kernel
theorem dX12_takesFirst_60 : decode cX12_takesFirst 60 = .ok (.iconst 1, 1) := by decide +kernel
theorem dX12_takesFirst_61 : decode cX12_takesFirst 61 = .ok (.iaload, 1) := by decide +kernel
theorem dX12_takesFirst_62 : decode cX12_takesFirst 62 = .ok (.invokestatic 57, 3) := by decide +kernel
theorem dX12_takesFirst_65 : decode cX12_takesFirst 65 = .ok (.aload_n 0, 1) := by decide +kernel
theorem dX12_takesFirst_66 : decode cX12_takesFirst 66 = .ok (.getfield 242, 3) := by decide +kernel
theorem dX12_takesFirst_69 : decode cX12_takesFirst 69 = .ok (.iconst 3, 1) := by decide +kernel
theorem dX12_takesFirst_70 : decode cX12_takesFirst 70 = .ok (.if_icmp .ne 7, 3) := by decide +kernel
theorem dX12_takesFirst_73 : decode cX12_takesFirst 73 = .ok (.iconst 1, 1) := by decide +kernel
theorem dX12_takesFirst_74 : decode cX12_takesFirst 74 = .ok (.goto 4, 3) := by decide +kernel
theorem dX12_takesFirst_77 : decode cX12_takesFirst 77 = .ok (.iconst 0, 1) := by decide +kernel
theorem dX12_takesFirst_78 : decode cX12_takesFirst 78 = .ok (.ireturn, 1) := by decide +kernel
theorem dX12_takesChild_0 : decode cX12_takesChild 0 = .ok (.aload_n 0, 1) := by decide +kernel
theorem dX12_takesChild_1 : decode cX12_takesChild 1 = .ok (.iconst 5, 1) := by decide +kernel
theorem dX12_takesChild_2 : decode cX12_takesChild 2 = .ok (.bipush 99, 2) := by decide +kernel
theorem dX12_takesChild_4 : decode cX12_takesChild 4 = .ok (.bipush 104, 2) := by decide +kernel
theorem dX12_takesChild_6 : decode cX12_takesChild 6 = .ok (.bipush 105, 2) := by decide +kernel
theorem dX12_takesChild_8 : decode cX12_takesChild 8 = .ok (.bipush 108, 2) := by decide +kernel
theorem dX12_takesChild_10 : decode cX12_takesChild 10 = .ok (.bipush 100, 2) := by decide +kernel
theorem dX12_takesChild_12 : decode cX12_takesChild 12 = .ok (.invokevirtual 260, 3) := by decide +kernel
theorem dX12_takesChild_15 : decode cX12_takesChild 15 = .ok (.ifCond .eq 14, 3) := by decide +kernel
theorem dX12_takesChild_18 : decode cX12_takesChild 18 = .ok (.aload_n 0, 1) := by decide +kernel
theorem dX12_takesChild_19 : decode cX12_takesChild 19 = .ok (.getfield 51, 3) := by decide +kernel
theorem dX12_takesChild_22 : decode cX12_takesChild 22 = .ok (.iconst 0, 1) := by decide +kernel
theorem dX12_takesChild_23 : decode cX12_takesChild 23 = .ok (.iaload, 1) := by decide +kernel
theorem dX12_takesChild_24 : decode cX12_takesChild 24 = .ok (.bipush 6, 2) := by decide +kernel
theorem dX12_takesChild_26 : decode cX12_takesChild 26 = .ok (.if_icmp .ne 5, 3) := by decide +kernel
theorem dX12_takesChild_29 : decode cX12_takesChild 29 = .ok (.iconst 0, 1) := by decide +kernel
theorem dX12_takesChild_30 : decode cX12_takesChild 30 = .ok (.ireturn, 1) := by decide +kernel
theorem dX12_takesChild_31 : decode cX12_takesChild 31 = .ok (.aload_n 0, 1) := by decide +kernel
theorem dX12_takesChild_32 : decode cX12_takesChild 32 = .ok (.invokevirtual 257, 3) := by decide +kernel
theorem dX12_takesChild_35 : decode cX12_takesChild 35 = .ok (.aload_n 0, 1) := by decide +kernel
theorem dX12_takesChild_36 : decode cX12_takesChild 36 = .ok (.iconst 0, 1) := by decide +kernel
theorem dX12_takesChild_37 : decode cX12_takesChild 37 = .ok (.iconst 0, 1) := by decide +kernel
theorem dX12_takesChild_38 : decode cX12_takesChild 38 = .ok (.iconst 5, 1) := by decide +kernel
theorem dX12_takesChild_39 : decode cX12_takesChild 39 = .ok (.invokevirtual 264, 3) := by decide +kernel
theorem dX12_takesChild_42 : decode cX12_takesChild 42 = .ok (.ifCond .eq 46, 3) := by decide +kernel
theorem dX12_takesChild_45 : decode cX12_takesChild 45 = .ok (.aload_n 0, 1) := by decide +kernel
theorem dX12_takesChild_46 : decode cX12_takesChild 46 = .ok (.iconst 1, 1) := by decide +kernel
theorem dX12_takesChild_47 : decode cX12_takesChild 47 = .ok (.iconst 1, 1) := by decide +kernel
theorem dX12_takesChild_48 : decode cX12_takesChild 48 = .ok (.bipush 9, 2) := by decide +kernel
theorem dX12_takesChild_50 : decode cX12_takesChild 50 = .ok (.invokevirtual 264, 3) := by decide +kernel
theorem dX12_takesChild_53 : decode cX12_takesChild 53 = .ok (.ifCond .eq 35, 3) := by decide +kernel
theorem dX12_takesChild_56 : decode cX12_takesChild 56 = .ok (.aload_n 0, 1) := by decide +kernel
theorem dX12_takesChild_57 : decode cX12_takesChild 57 = .ok (.iconst 2, 1) := by decide +kernel
theorem dX12_takesChild_58 : decode cX12_takesChild 58 = .ok (.iconst 0, 1) := by decide +kernel
theorem dX12_takesChild_59 : decode cX12_takesChild 59 = .ok (.bipush 47, 2) := by decide +kernel
theorem dX12_takesChild_61 : decode cX12_takesChild 61 = .ok (.invokevirtual 264, 3) := by decide +kernel
theorem dX12_takesChild_64 : decode cX12_takesChild 64 = .ok (.ifCond .eq 24, 3) := by decide +kernel
theorem dX12_takesChild_67 : decode cX12_takesChild 67 = .ok (.aload_n 0, 1) := by decide +kernel
theorem dX12_takesChild_68 : decode cX12_takesChild 68 = .ok (.iconst 3, 1) := by decide +kernel
theorem dX12_takesChild_69 : decode cX12_takesChild 69 = .ok (.iconst 0, 1) := by decide +kernel
theorem dX12_takesChild_70 : decode cX12_takesChild 70 = .ok (.iconst 3, 1) := by decide +kernel
theorem dX12_takesChild_71 : decode cX12_takesChild 71 = .ok (.invokevirtual 264, 3) := by decide +kernel
theorem dX12_takesChild_74 : decode cX12_takesChild 74 = .ok (.ifCond .eq 14, 3) := by decide +kernel
theorem dX12_takesChild_77 : decode cX12_takesChild 77 = .ok (.aload_n 0, 1) := by decide +kernel
theorem dX12_takesChild_78 : decode cX12_takesChild 78 = .ok (.iconst 4, 1) := by decide +kernel
theorem dX12_takesChild_79 : decode cX12_takesChild 79 = .ok (.iconst 0, 1) := by decide +kernel
theorem dX12_takesChild_80 : decode cX12_takesChild 80 = .ok (.bipush 60, 2) := by decide +kernel
theorem dX12_takesChild_82 : decode cX12_takesChild 82 = .ok (.invokevirtual 264, 3) := by decide +kernel
theorem dX12_takesChild_85 : decode cX12_takesChild 85 = .ok (.ifCond .ne 5, 3) := by decide +kernel
theorem dX12_takesChild_88 : decode cX12_takesChild 88 = .ok (.iconst 0, 1) := by decide +kernel
theorem dX12_takesChild_89 : decode cX12_takesChild 89 = .ok (.ireturn, 1) := by decide +kernel
theorem dX12_takesChild_90 : decode cX12_takesChild 90 = .ok (.aload_n 0, 1) := by decide +kernel
theorem dX12_takesChild_91 : decode cX12_takesChild 91 = .ok (.getfield 51, 3) := by decide +kernel
theorem dX12_takesChild_94 : decode cX12_takesChild 94 = .ok (.aload_n 0, 1) := by decide +kernel
theorem dX12_takesChild_95 : decode cX12_takesChild 95 = .ok (.getfield 54, 3) := by decide +kernel
theorem dX12_takesChild_98 : decode cX12_takesChild 98 = .ok (.iconst 0, 1) := by decide +kernel
theorem dX12_takesChild_99 : decode cX12_takesChild 99 = .ok (.iaload, 1) := by decide +kernel
theorem dX12_takesChild_100 : decode cX12_takesChild 100 = .ok (.aload_n 0, 1) := by decide +kernel
theorem dX12_takesChild_101 : decode cX12_takesChild 101 = .ok (.getfield 54, 3) := by decide +kernel
theorem dX12_takesChild_104 : decode cX12_takesChild 104 = .ok (.iconst 1, 1) := by decide +kernel
theorem dX12_takesChild_105 : decode cX12_takesChild 105 = .ok (.iaload, 1) := by decide +kernel
theorem dX12_takesChild_106 : decode cX12_takesChild 106 = .ok (.aload_n 0, 1) := by decide +kernel
theorem dX12_takesChild_107 : decode cX12_takesChild 107 = .ok (.getfield 54, 3) := by decide +kernel
theorem dX12_takesChild_110 : decode cX12_takesChild 110 = .ok (.iconst 2, 1) := by decide +kernel
theorem dX12_takesChild_111 : decode cX12_takesChild 111 = .ok (.iaload, 1) := by decide +kernel
theorem dX12_takesChild_112 : decode cX12_takesChild 112 = .ok (.aload_n 0, 1) := by decide +kernel
theorem dX12_takesChild_113 : decode cX12_takesChild 113 = .ok (.getfield 54, 3) := by decide +kernel
theorem dX12_takesChild_116 : decode cX12_takesChild 116 = .ok (.iconst 3, 1) := by decide +kernel
theorem dX12_takesChild_117 : decode cX12_takesChild 117 = .ok (.iaload, 1) := by decide +kernel
theorem dX12_takesChild_118 : decode cX12_takesChild 118 = .ok (.aload_n 0, 1) := by decide +kernel
theorem dX12_takesChild_119 : decode cX12_takesChild 119 = .ok (.getfield 54, 3) := by decide +kernel
theorem dX12_takesChild_122 : decode cX12_takesChild 122 = .ok (.iconst 4, 1) := by decide +kernel
theorem dX12_takesChild_123 : decode cX12_takesChild 123 = .ok (.iaload, 1) := by decide +kernel
theorem dX12_takesChild_124 : decode cX12_takesChild 124 = .ok (.invokestatic 94, 3) := by decide +kernel
theorem dX12_takesChild_127 : decode cX12_takesChild 127 = .ok (.iconst 1, 1) := by decide +kernel
theorem dX12_takesChild_128 : decode cX12_takesChild 128 = .ok (.ireturn, 1) := by decide +kernel
theorem dX12_read_0 : decode cX12_read 0 = .ok (.aload_n 0, 1) := by decide +kernel
theorem dX12_read_1 : decode cX12_read 1 = .ok (.iconst 0, 1) := by decide +kernel
theorem dX12_read_2 : decode cX12_read 2 = .ok (.invokevirtual 254, 3) := by decide +kernel
theorem dX12_read_5 : decode cX12_read 5 = .ok (.aload_n 0, 1) := by decide +kernel
theorem dX12_read_6 : decode cX12_read 6 = .ok (.invokevirtual 267, 3) := by decide +kernel
theorem dX12_read_9 : decode cX12_read 9 = .ok (.ifCond .ne 11, 3) := by decide +kernel
theorem dX12_read_12 : decode cX12_read 12 = .ok (.bipush (-10), 2) := by decide +kernel
theorem dX12_read_14 : decode cX12_read 14 = .ok (.aload_n 0, 1) := by decide +kernel
theorem dX12_read_15 : decode cX12_read 15 = .ok (.getfield 236, 3) := by decide +kernel
theorem dX12_read_18 : decode cX12_read 18 = .ok (.isub, 1) := by decide +kernel
theorem dX12_read_19 : decode cX12_read 19 = .ok (.ireturn, 1) := by decide +kernel
theorem dX12_read_20 : decode cX12_read 20 = .ok (.aload_n 0, 1) := by decide +kernel
theorem dX12_read_21 : decode cX12_read 21 = .ok (.invokevirtual 257, 3) := by decide +kernel
theorem dX12_read_24 : decode cX12_read 24 = .ok (.iconst 1, 1) := by decide +kernel
theorem dX12_read_25 : decode cX12_read 25 = .ok (.istore_n 1, 1) := by decide +kernel
theorem dX12_read_26 : decode cX12_read 26 = .ok (.aload_n 0, 1) := by decide +kernel
theorem dX12_read_27 : decode cX12_read 27 = .ok (.getfield 242, 3) := by decide +kernel
theorem dX12_read_30 : decode cX12_read 30 = .ok (.ifCond .eq 36, 3) := by decide +kernel
theorem dX12_read_33 : decode cX12_read 33 = .ok (.aload_n 0, 1) := by decide +kernel
theorem dX12_read_34 : decode cX12_read 34 = .ok (.invokevirtual 270, 3) := by decide +kernel
theorem dX12_read_37 : decode cX12_read 37 = .ok (.ifCond .eq 11, 3) := by decide +kernel
theorem dX12_read_40 : decode cX12_read 40 = .ok (.aload_n 0, 1) := by decide +kernel
theorem dX12_read_41 : decode cX12_read 41 = .ok (.getfield 242, 3) := by decide +kernel
theorem dX12_read_44 : decode cX12_read 44 = .ok (.iconst 3, 1) := by decide +kernel
theorem dX12_read_45 : decode cX12_read 45 = .ok (.if_icmp .eq 11, 3) := by decide +kernel
theorem dX12_read_48 : decode cX12_read 48 = .ok (.bipush (-10), 2) := by decide +kernel
theorem dX12_read_50 : decode cX12_read 50 = .ok (.aload_n 0, 1) := by decide +kernel
theorem dX12_read_51 : decode cX12_read 51 = .ok (.getfield 236, 3) := by decide +kernel
theorem dX12_read_54 : decode cX12_read 54 = .ok (.isub, 1) := by decide +kernel
theorem dX12_read_55 : decode cX12_read 55 = .ok (.ireturn, 1) := by decide +kernel
theorem dX12_read_56 : decode cX12_read 56 = .ok (.aload_n 0, 1) := by decide +kernel
theorem dX12_read_57 : decode cX12_read 57 = .ok (.invokevirtual 257, 3) := by decide +kernel
theorem dX12_read_60 : decode cX12_read 60 = .ok (.iinc 1 1, 3) := by decide +kernel
theorem dX12_read_63 : decode cX12_read 63 = .ok (.goto (-37), 3) := by decide +kernel
theorem dX12_read_66 : decode cX12_read 66 = .ok (.iconst 0, 1) := by decide +kernel
theorem dX12_read_67 : decode cX12_read 67 = .ok (.istore_n 2, 1) := by decide +kernel
theorem dX12_read_68 : decode cX12_read 68 = .ok (.iload_n 2, 1) := by decide +kernel
theorem dX12_read_69 : decode cX12_read 69 = .ok (.bipush 74, 2) := by decide +kernel
theorem dX12_read_71 : decode cX12_read 71 = .ok (.if_icmp .ge 21, 3) := by decide +kernel
theorem dX12_read_74 : decode cX12_read 74 = .ok (.aload_n 0, 1) := by decide +kernel
theorem dX12_read_75 : decode cX12_read 75 = .ok (.getfield 7, 3) := by decide +kernel
theorem dX12_read_78 : decode cX12_read 78 = .ok (.iload_n 2, 1) := by decide +kernel
theorem dX12_read_79 : decode cX12_read 79 = .ok (.aload_n 0, 1) := by decide +kernel
theorem dX12_read_80 : decode cX12_read 80 = .ok (.getfield 51, 3) := by decide +kernel
theorem dX12_read_83 : decode cX12_read 83 = .ok (.iload_n 2, 1) := by decide +kernel
theorem dX12_read_84 : decode cX12_read 84 = .ok (.iaload, 1) := by decide +kernel
theorem dX12_read_85 : decode cX12_read 85 = .ok (.iastore, 1) := by decide +kernel
theorem dX12_read_86 : decode cX12_read 86 = .ok (.iinc 2 1, 3) := by decide +kernel
theorem dX12_read_89 : decode cX12_read 89 = .ok (.goto (-21), 3) := by decide +kernel
theorem dX12_read_92 : decode cX12_read 92 = .ok (.iload_n 1, 1) := by decide +kernel
theorem dX12_read_93 : decode cX12_read 93 = .ok (.ireturn, 1) := by decide +kernel
theorem dX12_part_0 : decode cX12_part 0 = .ok (.iload_n 1, 1) := by decide +kernel
theorem dX12_part_1 : decode cX12_part 1 = .ok (.ifCond .ne 10, 3) := by decide +kernel
theorem dX12_part_4 : decode cX12_part 4 = .ok (.aload_n 0, 1) := by decide +kernel
theorem dX12_part_5 : decode cX12_part 5 = .ok (.getfield 202, 3) := by decide +kernel
theorem dX12_part_8 : decode cX12_part 8 = .ok (.goto 22, 3) := by decide +kernel
theorem dX12_part_11 : decode cX12_part 11 = .ok (.iload_n 1, 1) := by decide +kernel
theorem dX12_part_12 : decode cX12_part 12 = .ok (.iconst 1, 1) := by decide +kernel
theorem dX12_part_13 : decode cX12_part 13 = .ok (.if_icmp .ne 10, 3) := by decide +kernel
theorem dX12_part_16 : decode cX12_part 16 = .ok (.aload_n 0, 1) := by decide +kernel
theorem dX12_part_17 : decode cX12_part 17 = .ok (.getfield 23, 3) := by decide +kernel
theorem dX12_part_20 : decode cX12_part 20 = .ok (.goto 10, 3) := by decide +kernel
theorem dX12_part_23 : decode cX12_part 23 = .ok (.aload_n 0, 1) := by decide +kernel
theorem dX12_part_24 : decode cX12_part 24 = .ok (.bipush (-2), 2) := by decide +kernel
theorem dX12_part_26 : decode cX12_part 26 = .ok (.invokevirtual 75, 3) := by decide +kernel
theorem dX12_part_29 : decode cX12_part 29 = .ok (.i2l, 1) := by decide +kernel
theorem dX12_part_30 : decode cX12_part 30 = .ok (.lreturn, 1) := by decide +kernel
theorem dX12_image_0 : decode cX12_image 0 = .ok (.iload_n 1, 1) := by decide +kernel
theorem dX12_image_1 : decode cX12_image 1 = .ok (.i2l, 1) := by decide +kernel
theorem dX12_image_2 : decode cX12_image 2 = .ok (.lconst 0, 1) := by decide +kernel
theorem dX12_image_3 : decode cX12_image 3 = .ok (.lconst 1, 1) := by decide +kernel
theorem dX12_image_4 : decode cX12_image 4 = .ok (.invokestatic 65, 3) := by decide +kernel
theorem dX12_image_7 : decode cX12_image 7 = .ok (.ifCond .ne 10, 3) := by decide +kernel
theorem dX12_image_10 : decode cX12_image 10 = .ok (.aload_n 0, 1) := by decide +kernel
theorem dX12_image_11 : decode cX12_image 11 = .ok (.bipush (-2), 2) := by decide +kernel
theorem dX12_image_13 : decode cX12_image 13 = .ok (.invokevirtual 75, 3) := by decide +kernel
theorem dX12_image_16 : decode cX12_image 16 = .ok (.ireturn, 1) := by decide +kernel
theorem dX12_image_17 : decode cX12_image 17 = .ok (.iconst 0, 1) := by decide +kernel
theorem dX12_image_18 : decode cX12_image 18 = .ok (.istore_n 2, 1) := by decide +kernel
theorem dX12_image_19 : decode cX12_image 19 = .ok (.iload_n 2, 1) := by decide +kernel
theorem dX12_image_20 : decode cX12_image 20 = .ok (.sipush 170, 3) := by decide +kernel
theorem dX12_image_23 : decode cX12_image 23 = .ok (.if_icmp .ge 27, 3) := by decide +kernel
theorem dX12_image_26 : decode cX12_image 26 = .ok (.aload_n 0, 1) := by decide +kernel
theorem dX12_image_27 : decode cX12_image 27 = .ok (.getfield 13, 3) := by decide +kernel
theorem dX12_image_30 : decode cX12_image 30 = .ok (.sipush 170, 3) := by decide +kernel
theorem dX12_image_33 : decode cX12_image 33 = .ok (.iload_n 1, 1) := by decide +kernel
theorem dX12_image_34 : decode cX12_image 34 = .ok (.imul, 1) := by decide +kernel
theorem dX12_image_35 : decode cX12_image 35 = .ok (.iload_n 2, 1) := by decide +kernel
theorem dX12_image_36 : decode cX12_image 36 = .ok (.iadd, 1) := by decide +kernel
theorem dX12_image_37 : decode cX12_image 37 = .ok (.aload_n 0, 1) := by decide +kernel
theorem dX12_image_38 : decode cX12_image 38 = .ok (.getfield 7, 3) := by decide +kernel
theorem dX12_image_41 : decode cX12_image 41 = .ok (.iload_n 2, 1) := by decide +kernel
theorem dX12_image_42 : decode cX12_image 42 = .ok (.iaload, 1) := by decide +kernel
theorem dX12_image_43 : decode cX12_image 43 = .ok (.iastore, 1) := by decide +kernel
theorem dX12_image_44 : decode cX12_image 44 = .ok (.iinc 2 1, 3) := by decide +kernel
theorem dX12_image_47 : decode cX12_image 47 = .ok (.goto (-28), 3) := by decide +kernel
theorem dX12_image_50 : decode cX12_image 50 = .ok (.aload_n 0, 1) := by decide +kernel
theorem dX12_image_51 : decode cX12_image 51 = .ok (.getfield 16, 3) := by decide +kernel
theorem dX12_image_54 : decode cX12_image 54 = .ok (.iload_n 1, 1) := by decide +kernel
theorem dX12_image_55 : decode cX12_image 55 = .ok (.iconst 1, 1) := by decide +kernel
theorem dX12_image_56 : decode cX12_image 56 = .ok (.bastore, 1) := by decide +kernel
theorem dX12_image_57 : decode cX12_image 57 = .ok (.iconst 1, 1) := by decide +kernel
theorem dX12_image_58 : decode cX12_image 58 = .ok (.ireturn, 1) := by decide +kernel
theorem dX12_from_0 : decode cX12_from 0 = .ok (.iload_n 1, 1) := by decide +kernel
theorem dX12_from_1 : decode cX12_from 1 = .ok (.i2l, 1) := by decide +kernel
theorem dX12_from_2 : decode cX12_from 2 = .ok (.lconst 0, 1) := by decide +kernel
theorem dX12_from_3 : decode cX12_from 3 = .ok (.lconst 1, 1) := by decide +kernel
theorem dX12_from_4 : decode cX12_from 4 = .ok (.invokestatic 65, 3) := by decide +kernel
theorem dX12_from_7 : decode cX12_from 7 = .ok (.ifCond .ne 10, 3) := by decide +kernel
theorem dX12_from_10 : decode cX12_from 10 = .ok (.aload_n 0, 1) := by decide +kernel
theorem dX12_from_11 : decode cX12_from 11 = .ok (.bipush (-2), 2) := by decide +kernel
theorem dX12_from_13 : decode cX12_from 13 = .ok (.invokevirtual 75, 3) := by decide +kernel
theorem dX12_from_16 : decode cX12_from 16 = .ok (.ireturn, 1) := by decide +kernel
theorem dX12_from_17 : decode cX12_from 17 = .ok (.aload_n 0, 1) := by decide +kernel
theorem dX12_from_18 : decode cX12_from 18 = .ok (.getfield 16, 3) := by decide +kernel
theorem dX12_from_21 : decode cX12_from 21 = .ok (.iload_n 1, 1) := by decide +kernel
theorem dX12_from_22 : decode cX12_from 22 = .ok (.baload, 1) := by decide +kernel
theorem dX12_from_23 : decode cX12_from 23 = .ok (.ifCond .ne 8, 3) := by decide +kernel
theorem dX12_from_26 : decode cX12_from 26 = .ok (.aload_n 0, 1) := by decide +kernel
theorem dX12_from_27 : decode cX12_from 27 = .ok (.invokevirtual 112, 3) := by decide +kernel
theorem dX12_from_30 : decode cX12_from 30 = .ok (.ireturn, 1) := by decide +kernel
theorem dX12_from_31 : decode cX12_from 31 = .ok (.iconst 0, 1) := by decide +kernel
theorem dX12_from_32 : decode cX12_from 32 = .ok (.istore_n 2, 1) := by decide +kernel
theorem dX12_from_33 : decode cX12_from 33 = .ok (.iload_n 2, 1) := by decide +kernel
theorem dX12_from_34 : decode cX12_from 34 = .ok (.sipush 170, 3) := by decide +kernel
theorem dX12_from_37 : decode cX12_from 37 = .ok (.if_icmp .ge 27, 3) := by decide +kernel
theorem dX12_from_40 : decode cX12_from 40 = .ok (.aload_n 0, 1) := by decide +kernel
theorem dX12_from_41 : decode cX12_from 41 = .ok (.getfield 7, 3) := by decide +kernel
theorem dX12_from_44 : decode cX12_from 44 = .ok (.iload_n 2, 1) := by decide +kernel
theorem dX12_from_45 : decode cX12_from 45 = .ok (.aload_n 0, 1) := by decide +kernel
theorem dX12_from_46 : decode cX12_from 46 = .ok (.getfield 13, 3) := by decide +kernel
theorem dX12_from_49 : decode cX12_from 49 = .ok (.sipush 170, 3) := by decide +kernel
theorem dX12_from_52 : decode cX12_from 52 = .ok (.iload_n 1, 1) := by decide +kernel
theorem dX12_from_53 : decode cX12_from 53 = .ok (.imul, 1) := by decide +kernel
theorem dX12_from_54 : decode cX12_from 54 = .ok (.iload_n 2, 1) := by decide +kernel
theorem dX12_from_55 : decode cX12_from 55 = .ok (.iadd, 1) := by decide +kernel
theorem dX12_from_56 : decode cX12_from 56 = .ok (.iaload, 1) := by decide +kernel
theorem dX12_from_57 : decode cX12_from 57 = .ok (.iastore, 1) := by decide +kernel
theorem dX12_from_58 : decode cX12_from 58 = .ok (.iinc 2 1, 3) := by decide +kernel
theorem dX12_from_61 : decode cX12_from 61 = .ok (.goto (-28), 3) := by decide +kernel
theorem dX12_from_64 : decode cX12_from 64 = .ok (.iconst 1, 1) := by decide +kernel
theorem dX12_from_65 : decode cX12_from 65 = .ok (.ireturn, 1) := by decide +kernel
theorem dX12_status_0 : decode cX12_status 0 = .ok (.iload_n 1, 1) := by decide +kernel
theorem dX12_status_1 : decode cX12_status 1 = .ok (.i2l, 1) := by decide +kernel
theorem dX12_status_2 : decode cX12_status 2 = .ok (.lconst 0, 1) := by decide +kernel
theorem dX12_status_3 : decode cX12_status 3 = .ok (.ldc2_w 73, 3) := by decide +kernel
theorem dX12_status_6 : decode cX12_status 6 = .ok (.invokestatic 65, 3) := by decide +kernel
theorem dX12_status_9 : decode cX12_status 9 = .ok (.ifCond .eq 12, 3) := by decide +kernel
theorem dX12_status_12 : decode cX12_status 12 = .ok (.aload_n 0, 1) := by decide +kernel
theorem dX12_status_13 : decode cX12_status 13 = .ok (.getfield 20, 3) := by decide +kernel
theorem dX12_status_16 : decode cX12_status 16 = .ok (.iload_n 1, 1) := by decide +kernel
theorem dX12_status_17 : decode cX12_status 17 = .ok (.iaload, 1) := by decide +kernel
theorem dX12_status_18 : decode cX12_status 18 = .ok (.goto 8, 3) := by decide +kernel
theorem dX12_status_21 : decode cX12_status 21 = .ok (.aload_n 0, 1) := by decide +kernel
theorem dX12_status_22 : decode cX12_status 22 = .ok (.iconst (-1), 1) := by decide +kernel
theorem dX12_status_23 : decode cX12_status 23 = .ok (.invokevirtual 75, 3) := by decide +kernel
theorem dX12_status_26 : decode cX12_status 26 = .ok (.ireturn, 1) := by decide +kernel
theorem dX12_counted_0 : decode cX12_counted 0 = .ok (.iload_n 1, 1) := by decide +kernel
theorem dX12_counted_1 : decode cX12_counted 1 = .ok (.bipush 6, 2) := by decide +kernel
theorem dX12_counted_3 : decode cX12_counted 3 = .ok (.if_icmp .ge 12, 3) := by decide +kernel
theorem dX12_counted_6 : decode cX12_counted 6 = .ok (.aload_n 0, 1) := by decide +kernel
theorem dX12_counted_7 : decode cX12_counted 7 = .ok (.getfield 7, 3) := by decide +kernel
theorem dX12_counted_10 : decode cX12_counted 10 = .ok (.iload_n 1, 1) := by decide +kernel
theorem dX12_counted_11 : decode cX12_counted 11 = .ok (.iaload, 1) := by decide +kernel
theorem dX12_counted_12 : decode cX12_counted 12 = .ok (.goto 7, 3) := by decide +kernel
theorem dX12_counted_15 : decode cX12_counted 15 = .ok (.aload_n 0, 1) := by decide +kernel
theorem dX12_counted_16 : decode cX12_counted 16 = .ok (.getfield 225, 3) := by decide +kernel
theorem dX12_counted_19 : decode cX12_counted 19 = .ok (.ireturn, 1) := by decide +kernel
theorem dX12_count_0 : decode cX12_count 0 = .ok (.iload_n 1, 1) := by decide +kernel
theorem dX12_count_1 : decode cX12_count 1 = .ok (.i2l, 1) := by decide +kernel
theorem dX12_count_2 : decode cX12_count 2 = .ok (.lconst 0, 1) := by decide +kernel
theorem dX12_count_3 : decode cX12_count 3 = .ok (.ldc2_w 182, 3) := by decide +kernel
theorem dX12_count_6 : decode cX12_count 6 = .ok (.invokestatic 65, 3) := by decide +kernel
theorem dX12_count_9 : decode cX12_count 9 = .ok (.ifCond .eq 11, 3) := by decide +kernel
theorem dX12_count_12 : decode cX12_count 12 = .ok (.aload_n 0, 1) := by decide +kernel
theorem dX12_count_13 : decode cX12_count 13 = .ok (.iload_n 1, 1) := by decide +kernel
theorem dX12_count_14 : decode cX12_count 14 = .ok (.invokevirtual 273, 3) := by decide +kernel
theorem dX12_count_17 : decode cX12_count 17 = .ok (.goto 9, 3) := by decide +kernel
theorem dX12_count_20 : decode cX12_count 20 = .ok (.aload_n 0, 1) := by decide +kernel
theorem dX12_count_21 : decode cX12_count 21 = .ok (.bipush (-2), 2) := by decide +kernel
theorem dX12_count_23 : decode cX12_count 23 = .ok (.invokevirtual 75, 3) := by decide +kernel
theorem dX12_count_26 : decode cX12_count 26 = .ok (.ireturn, 1) := by decide +kernel
theorem dX12_sums_0 : decode cX12_sums 0 = .ok (.lload_n 1, 1) := by decide +kernel
theorem dX12_sums_1 : decode cX12_sums 1 = .ok (.lstore 5, 2) := by decide +kernel
theorem dX12_sums_3 : decode cX12_sums 3 = .ok (.iconst 0, 1) := by decide +kernel
theorem dX12_sums_4 : decode cX12_sums 4 = .ok (.istore 7, 2) := by decide +kernel
theorem dX12_sums_6 : decode cX12_sums 6 = .ok (.iload 7, 2) := by decide +kernel
theorem dX12_sums_8 : decode cX12_sums 8 = .ok (.iload 4, 2) := by decide +kernel
theorem dX12_sums_10 : decode cX12_sums 10 = .ok (.if_icmp .ge 28, 3) := by decide +kernel
theorem dX12_sums_13 : decode cX12_sums 13 = .ok (.ldc2_w 276, 3) := by decide +kernel
theorem dX12_sums_16 : decode cX12_sums 16 = .ok (.lload 5, 2) := by decide +kernel
theorem dX12_sums_18 : decode cX12_sums 18 = .ok (.lmul, 1) := by decide +kernel
theorem dX12_sums_19 : decode cX12_sums 19 = .ok (.aload_n 0, 1) := by decide +kernel
theorem dX12_sums_20 : decode cX12_sums 20 = .ok (.getfield 7, 3) := by decide +kernel
theorem dX12_sums_23 : decode cX12_sums 23 = .ok (.iload_n 3, 1) := by decide +kernel
theorem dX12_sums_24 : decode cX12_sums 24 = .ok (.iload 7, 2) := by decide +kernel
theorem dX12_sums_26 : decode cX12_sums 26 = .ok (.iadd, 1) := by decide +kernel
theorem dX12_sums_27 : decode cX12_sums 27 = .ok (.iaload, 1) := by decide +kernel
theorem dX12_sums_28 : decode cX12_sums 28 = .ok (.i2l, 1) := by decide +kernel
theorem dX12_sums_29 : decode cX12_sums 29 = .ok (.ladd, 1) := by decide +kernel
theorem dX12_sums_30 : decode cX12_sums 30 = .ok (.lstore 5, 2) := by decide +kernel
theorem dX12_sums_32 : decode cX12_sums 32 = .ok (.iinc 7 1, 3) := by decide +kernel
theorem dX12_sums_35 : decode cX12_sums 35 = .ok (.goto (-29), 3) := by decide +kernel
theorem dX12_sums_38 : decode cX12_sums 38 = .ok (.lload 5, 2) := by decide +kernel
theorem dX12_sums_40 : decode cX12_sums 40 = .ok (.lreturn, 1) := by decide +kernel
theorem dX12_digest_0 : decode cX12_digest 0 = .ok (.ldc2_w 278, 3) := by decide +kernel
theorem dX12_digest_3 : decode cX12_digest 3 = .ok (.lstore_n 1, 1) := by decide +kernel
theorem dX12_digest_4 : decode cX12_digest 4 = .ok (.iconst 0, 1) := by decide +kernel
theorem dX12_digest_5 : decode cX12_digest 5 = .ok (.istore_n 3, 1) := by decide +kernel
theorem dX12_digest_6 : decode cX12_digest 6 = .ok (.iload_n 3, 1) := by decide +kernel
theorem dX12_digest_7 : decode cX12_digest 7 = .ok (.bipush 7, 2) := by decide +kernel
theorem dX12_digest_9 : decode cX12_digest 9 = .ok (.if_icmp .ge 22, 3) := by decide +kernel
theorem dX12_digest_12 : decode cX12_digest 12 = .ok (.ldc2_w 276, 3) := by decide +kernel
theorem dX12_digest_15 : decode cX12_digest 15 = .ok (.lload_n 1, 1) := by decide +kernel
theorem dX12_digest_16 : decode cX12_digest 16 = .ok (.lmul, 1) := by decide +kernel
theorem dX12_digest_17 : decode cX12_digest 17 = .ok (.aload_n 0, 1) := by decide +kernel
theorem dX12_digest_18 : decode cX12_digest 18 = .ok (.iload_n 3, 1) := by decide +kernel
theorem dX12_digest_19 : decode cX12_digest 19 = .ok (.invokevirtual 273, 3) := by decide +kernel
theorem dX12_digest_22 : decode cX12_digest 22 = .ok (.i2l, 1) := by decide +kernel
theorem dX12_digest_23 : decode cX12_digest 23 = .ok (.ladd, 1) := by decide +kernel
theorem dX12_digest_24 : decode cX12_digest 24 = .ok (.lstore_n 1, 1) := by decide +kernel
theorem dX12_digest_25 : decode cX12_digest 25 = .ok (.iinc 3 1, 3) := by decide +kernel
theorem dX12_digest_28 : decode cX12_digest 28 = .ok (.goto (-22), 3) := by decide +kernel
theorem dX12_digest_31 : decode cX12_digest 31 = .ok (.aload_n 0, 1) := by decide +kernel
theorem dX12_digest_32 : decode cX12_digest 32 = .ok (.lload_n 1, 1) := by decide +kernel
theorem dX12_digest_33 : decode cX12_digest 33 = .ok (.bipush 6, 2) := by decide +kernel
theorem dX12_digest_35 : decode cX12_digest 35 = .ok (.iconst 5, 1) := by decide +kernel
theorem dX12_digest_36 : decode cX12_digest 36 = .ok (.aload_n 0, 1) := by decide +kernel
theorem dX12_digest_37 : decode cX12_digest 37 = .ok (.invokevirtual 61, 3) := by decide +kernel
theorem dX12_digest_40 : decode cX12_digest 40 = .ok (.imul, 1) := by decide +kernel
theorem dX12_digest_41 : decode cX12_digest 41 = .ok (.invokevirtual 280, 3) := by decide +kernel
theorem dX12_digest_44 : decode cX12_digest 44 = .ok (.lstore_n 1, 1) := by decide +kernel
theorem dX12_digest_45 : decode cX12_digest 45 = .ok (.aload_n 0, 1) := by decide +kernel
theorem dX12_digest_46 : decode cX12_digest 46 = .ok (.lload_n 1, 1) := by decide +kernel
theorem dX12_digest_47 : decode cX12_digest 47 = .ok (.bipush 36, 2) := by decide +kernel
theorem dX12_digest_49 : decode cX12_digest 49 = .ok (.aload_n 0, 1) := by decide +kernel
theorem dX12_digest_50 : decode cX12_digest 50 = .ok (.getfield 7, 3) := by decide +kernel
theorem dX12_digest_53 : decode cX12_digest 53 = .ok (.iconst 3, 1) := by decide +kernel
theorem dX12_digest_54 : decode cX12_digest 54 = .ok (.iaload, 1) := by decide +kernel
theorem dX12_digest_55 : decode cX12_digest 55 = .ok (.invokevirtual 280, 3) := by decide +kernel
theorem dX12_digest_58 : decode cX12_digest 58 = .ok (.lstore_n 1, 1) := by decide +kernel
theorem dX12_digest_59 : decode cX12_digest 59 = .ok (.aload_n 0, 1) := by decide +kernel
theorem dX12_digest_60 : decode cX12_digest 60 = .ok (.lload_n 1, 1) := by decide +kernel
theorem dX12_digest_61 : decode cX12_digest 61 = .ok (.bipush 56, 2) := by decide +kernel
theorem dX12_digest_63 : decode cX12_digest 63 = .ok (.iconst 3, 1) := by decide +kernel
theorem dX12_digest_64 : decode cX12_digest 64 = .ok (.aload_n 0, 1) := by decide +kernel
theorem dX12_digest_65 : decode cX12_digest 65 = .ok (.getfield 7, 3) := by decide +kernel
theorem dX12_digest_68 : decode cX12_digest 68 = .ok (.iconst 4, 1) := by decide +kernel
theorem dX12_digest_69 : decode cX12_digest 69 = .ok (.iaload, 1) := by decide +kernel
theorem dX12_digest_70 : decode cX12_digest 70 = .ok (.imul, 1) := by decide +kernel
theorem dX12_digest_71 : decode cX12_digest 71 = .ok (.invokevirtual 280, 3) := by decide +kernel
theorem dX12_digest_74 : decode cX12_digest 74 = .ok (.lstore_n 1, 1) := by decide +kernel
theorem dX12_digest_75 : decode cX12_digest 75 = .ok (.ldc2_w 276, 3) := by decide +kernel
theorem dX12_digest_78 : decode cX12_digest 78 = .ok (.ldc2_w 276, 3) := by decide +kernel
theorem dX12_digest_81 : decode cX12_digest 81 = .ok (.lload_n 1, 1) := by decide +kernel
theorem dX12_digest_82 : decode cX12_digest 82 = .ok (.lmul, 1) := by decide +kernel
theorem dX12_digest_83 : decode cX12_digest 83 = .ok (.aload_n 0, 1) := by decide +kernel
theorem dX12_digest_84 : decode cX12_digest 84 = .ok (.getfield 202, 3) := by decide +kernel
theorem dX12_digest_87 : decode cX12_digest 87 = .ok (.ladd, 1) := by decide +kernel
theorem dX12_digest_88 : decode cX12_digest 88 = .ok (.lmul, 1) := by decide +kernel
theorem dX12_digest_89 : decode cX12_digest 89 = .ok (.aload_n 0, 1) := by decide +kernel
theorem dX12_digest_90 : decode cX12_digest 90 = .ok (.getfield 23, 3) := by decide +kernel
theorem dX12_digest_93 : decode cX12_digest 93 = .ok (.ladd, 1) := by decide +kernel
theorem dX12_digest_94 : decode cX12_digest 94 = .ok (.lreturn, 1) := by decide +kernel
theorem dJ6_bitCount_0f7a4_0 : decode cJ6_bitCount_0f7a4 0 = .ok (.iload_n 0, 1) := by decide +kernel
theorem dJ6_bitCount_0f7a4_1 : decode cJ6_bitCount_0f7a4 1 = .ok (.iload_n 0, 1) := by decide +kernel
theorem dJ6_bitCount_0f7a4_2 : decode cJ6_bitCount_0f7a4 2 = .ok (.iconst 1, 1) := by decide +kernel
theorem dJ6_bitCount_0f7a4_3 : decode cJ6_bitCount_0f7a4 3 = .ok (.iushr, 1) := by decide +kernel
theorem dJ6_bitCount_0f7a4_4 : decode cJ6_bitCount_0f7a4 4 = .ok (.ldc_w 265, 3) := by decide +kernel
theorem dJ6_bitCount_0f7a4_7 : decode cJ6_bitCount_0f7a4 7 = .ok (.iand, 1) := by decide +kernel
theorem dJ6_bitCount_0f7a4_8 : decode cJ6_bitCount_0f7a4 8 = .ok (.isub, 1) := by decide +kernel
theorem dJ6_bitCount_0f7a4_9 : decode cJ6_bitCount_0f7a4 9 = .ok (.istore_n 0, 1) := by decide +kernel
theorem dJ6_bitCount_0f7a4_10 : decode cJ6_bitCount_0f7a4 10 = .ok (.iload_n 0, 1) := by decide +kernel
theorem dJ6_bitCount_0f7a4_11 : decode cJ6_bitCount_0f7a4 11 = .ok (.ldc_w 266, 3) := by decide +kernel
theorem dJ6_bitCount_0f7a4_14 : decode cJ6_bitCount_0f7a4 14 = .ok (.iand, 1) := by decide +kernel
theorem dJ6_bitCount_0f7a4_15 : decode cJ6_bitCount_0f7a4 15 = .ok (.iload_n 0, 1) := by decide +kernel
theorem dJ6_bitCount_0f7a4_16 : decode cJ6_bitCount_0f7a4 16 = .ok (.iconst 2, 1) := by decide +kernel
theorem dJ6_bitCount_0f7a4_17 : decode cJ6_bitCount_0f7a4 17 = .ok (.iushr, 1) := by decide +kernel
theorem dJ6_bitCount_0f7a4_18 : decode cJ6_bitCount_0f7a4 18 = .ok (.ldc_w 266, 3) := by decide +kernel
theorem dJ6_bitCount_0f7a4_21 : decode cJ6_bitCount_0f7a4 21 = .ok (.iand, 1) := by decide +kernel
theorem dJ6_bitCount_0f7a4_22 : decode cJ6_bitCount_0f7a4 22 = .ok (.iadd, 1) := by decide +kernel
theorem dJ6_bitCount_0f7a4_23 : decode cJ6_bitCount_0f7a4 23 = .ok (.istore_n 0, 1) := by decide +kernel
theorem dJ6_bitCount_0f7a4_24 : decode cJ6_bitCount_0f7a4 24 = .ok (.iload_n 0, 1) := by decide +kernel
theorem dJ6_bitCount_0f7a4_25 : decode cJ6_bitCount_0f7a4 25 = .ok (.iload_n 0, 1) := by decide +kernel
theorem dJ6_bitCount_0f7a4_26 : decode cJ6_bitCount_0f7a4 26 = .ok (.iconst 4, 1) := by decide +kernel
theorem dJ6_bitCount_0f7a4_27 : decode cJ6_bitCount_0f7a4 27 = .ok (.iushr, 1) := by decide +kernel
theorem dJ6_bitCount_0f7a4_28 : decode cJ6_bitCount_0f7a4 28 = .ok (.iadd, 1) := by decide +kernel
theorem dJ6_bitCount_0f7a4_29 : decode cJ6_bitCount_0f7a4 29 = .ok (.ldc_w 267, 3) := by decide +kernel
theorem dJ6_bitCount_0f7a4_32 : decode cJ6_bitCount_0f7a4 32 = .ok (.iand, 1) := by decide +kernel
theorem dJ6_bitCount_0f7a4_33 : decode cJ6_bitCount_0f7a4 33 = .ok (.istore_n 0, 1) := by decide +kernel
theorem dJ6_bitCount_0f7a4_34 : decode cJ6_bitCount_0f7a4 34 = .ok (.iload_n 0, 1) := by decide +kernel
theorem dJ6_bitCount_0f7a4_35 : decode cJ6_bitCount_0f7a4 35 = .ok (.iload_n 0, 1) := by decide +kernel
theorem dJ6_bitCount_0f7a4_36 : decode cJ6_bitCount_0f7a4 36 = .ok (.bipush 8, 2) := by decide +kernel
theorem dJ6_bitCount_0f7a4_38 : decode cJ6_bitCount_0f7a4 38 = .ok (.iushr, 1) := by decide +kernel
theorem dJ6_bitCount_0f7a4_39 : decode cJ6_bitCount_0f7a4 39 = .ok (.iadd, 1) := by decide +kernel
theorem dJ6_bitCount_0f7a4_40 : decode cJ6_bitCount_0f7a4 40 = .ok (.istore_n 0, 1) := by decide +kernel
theorem dJ6_bitCount_0f7a4_41 : decode cJ6_bitCount_0f7a4 41 = .ok (.iload_n 0, 1) := by decide +kernel
theorem dJ6_bitCount_0f7a4_42 : decode cJ6_bitCount_0f7a4 42 = .ok (.iload_n 0, 1) := by decide +kernel
theorem dJ6_bitCount_0f7a4_43 : decode cJ6_bitCount_0f7a4 43 = .ok (.bipush 16, 2) := by decide +kernel
theorem dJ6_bitCount_0f7a4_45 : decode cJ6_bitCount_0f7a4 45 = .ok (.iushr, 1) := by decide +kernel
theorem dJ6_bitCount_0f7a4_46 : decode cJ6_bitCount_0f7a4 46 = .ok (.iadd, 1) := by decide +kernel
theorem dJ6_bitCount_0f7a4_47 : decode cJ6_bitCount_0f7a4 47 = .ok (.istore_n 0, 1) := by decide +kernel
theorem dJ6_bitCount_0f7a4_48 : decode cJ6_bitCount_0f7a4 48 = .ok (.iload_n 0, 1) := by decide +kernel
theorem dJ6_bitCount_0f7a4_49 : decode cJ6_bitCount_0f7a4 49 = .ok (.bipush 63, 2) := by decide +kernel
theorem dJ6_bitCount_0f7a4_51 : decode cJ6_bitCount_0f7a4 51 = .ok (.iand, 1) := by decide +kernel
theorem dJ6_bitCount_0f7a4_52 : decode cJ6_bitCount_0f7a4 52 = .ok (.ireturn, 1) := by decide +kernel
theorem dJ13_bitCount_95d88_0 : decode cJ13_bitCount_95d88 0 = .ok (.lload_n 0, 1) := by decide +kernel
theorem dJ13_bitCount_95d88_1 : decode cJ13_bitCount_95d88 1 = .ok (.lload_n 0, 1) := by decide +kernel
theorem dJ13_bitCount_95d88_2 : decode cJ13_bitCount_95d88 2 = .ok (.iconst 1, 1) := by decide +kernel
theorem dJ13_bitCount_95d88_3 : decode cJ13_bitCount_95d88 3 = .ok (.lushr, 1) := by decide +kernel
theorem dJ13_bitCount_95d88_4 : decode cJ13_bitCount_95d88 4 = .ok (.ldc2_w 314, 3) := by decide +kernel
theorem dJ13_bitCount_95d88_7 : decode cJ13_bitCount_95d88 7 = .ok (.land, 1) := by decide +kernel
theorem dJ13_bitCount_95d88_8 : decode cJ13_bitCount_95d88 8 = .ok (.lsub, 1) := by decide +kernel
theorem dJ13_bitCount_95d88_9 : decode cJ13_bitCount_95d88 9 = .ok (.lstore_n 0, 1) := by decide +kernel
theorem dJ13_bitCount_95d88_10 : decode cJ13_bitCount_95d88 10 = .ok (.lload_n 0, 1) := by decide +kernel
theorem dJ13_bitCount_95d88_11 : decode cJ13_bitCount_95d88 11 = .ok (.ldc2_w 316, 3) := by decide +kernel
theorem dJ13_bitCount_95d88_14 : decode cJ13_bitCount_95d88 14 = .ok (.land, 1) := by decide +kernel
theorem dJ13_bitCount_95d88_15 : decode cJ13_bitCount_95d88 15 = .ok (.lload_n 0, 1) := by decide +kernel
theorem dJ13_bitCount_95d88_16 : decode cJ13_bitCount_95d88 16 = .ok (.iconst 2, 1) := by decide +kernel
theorem dJ13_bitCount_95d88_17 : decode cJ13_bitCount_95d88 17 = .ok (.lushr, 1) := by decide +kernel
theorem dJ13_bitCount_95d88_18 : decode cJ13_bitCount_95d88 18 = .ok (.ldc2_w 316, 3) := by decide +kernel
theorem dJ13_bitCount_95d88_21 : decode cJ13_bitCount_95d88 21 = .ok (.land, 1) := by decide +kernel
theorem dJ13_bitCount_95d88_22 : decode cJ13_bitCount_95d88 22 = .ok (.ladd, 1) := by decide +kernel
theorem dJ13_bitCount_95d88_23 : decode cJ13_bitCount_95d88 23 = .ok (.lstore_n 0, 1) := by decide +kernel
theorem dJ13_bitCount_95d88_24 : decode cJ13_bitCount_95d88 24 = .ok (.lload_n 0, 1) := by decide +kernel
theorem dJ13_bitCount_95d88_25 : decode cJ13_bitCount_95d88 25 = .ok (.lload_n 0, 1) := by decide +kernel
theorem dJ13_bitCount_95d88_26 : decode cJ13_bitCount_95d88 26 = .ok (.iconst 4, 1) := by decide +kernel
theorem dJ13_bitCount_95d88_27 : decode cJ13_bitCount_95d88 27 = .ok (.lushr, 1) := by decide +kernel
theorem dJ13_bitCount_95d88_28 : decode cJ13_bitCount_95d88 28 = .ok (.ladd, 1) := by decide +kernel
theorem dJ13_bitCount_95d88_29 : decode cJ13_bitCount_95d88 29 = .ok (.ldc2_w 318, 3) := by decide +kernel
theorem dJ13_bitCount_95d88_32 : decode cJ13_bitCount_95d88 32 = .ok (.land, 1) := by decide +kernel
theorem dJ13_bitCount_95d88_33 : decode cJ13_bitCount_95d88 33 = .ok (.lstore_n 0, 1) := by decide +kernel
theorem dJ13_bitCount_95d88_34 : decode cJ13_bitCount_95d88 34 = .ok (.lload_n 0, 1) := by decide +kernel
theorem dJ13_bitCount_95d88_35 : decode cJ13_bitCount_95d88 35 = .ok (.lload_n 0, 1) := by decide +kernel
theorem dJ13_bitCount_95d88_36 : decode cJ13_bitCount_95d88 36 = .ok (.bipush 8, 2) := by decide +kernel
theorem dJ13_bitCount_95d88_38 : decode cJ13_bitCount_95d88 38 = .ok (.lushr, 1) := by decide +kernel
theorem dJ13_bitCount_95d88_39 : decode cJ13_bitCount_95d88 39 = .ok (.ladd, 1) := by decide +kernel
theorem dJ13_bitCount_95d88_40 : decode cJ13_bitCount_95d88 40 = .ok (.lstore_n 0, 1) := by decide +kernel
theorem dJ13_bitCount_95d88_41 : decode cJ13_bitCount_95d88 41 = .ok (.lload_n 0, 1) := by decide +kernel
theorem dJ13_bitCount_95d88_42 : decode cJ13_bitCount_95d88 42 = .ok (.lload_n 0, 1) := by decide +kernel
theorem dJ13_bitCount_95d88_43 : decode cJ13_bitCount_95d88 43 = .ok (.bipush 16, 2) := by decide +kernel
theorem dJ13_bitCount_95d88_45 : decode cJ13_bitCount_95d88 45 = .ok (.lushr, 1) := by decide +kernel
theorem dJ13_bitCount_95d88_46 : decode cJ13_bitCount_95d88 46 = .ok (.ladd, 1) := by decide +kernel
theorem dJ13_bitCount_95d88_47 : decode cJ13_bitCount_95d88 47 = .ok (.lstore_n 0, 1) := by decide +kernel
theorem dJ13_bitCount_95d88_48 : decode cJ13_bitCount_95d88 48 = .ok (.lload_n 0, 1) := by decide +kernel
theorem dJ13_bitCount_95d88_49 : decode cJ13_bitCount_95d88 49 = .ok (.lload_n 0, 1) := by decide +kernel
theorem dJ13_bitCount_95d88_50 : decode cJ13_bitCount_95d88 50 = .ok (.bipush 32, 2) := by decide +kernel
theorem dJ13_bitCount_95d88_52 : decode cJ13_bitCount_95d88 52 = .ok (.lushr, 1) := by decide +kernel
theorem dJ13_bitCount_95d88_53 : decode cJ13_bitCount_95d88 53 = .ok (.ladd, 1) := by decide +kernel
theorem dJ13_bitCount_95d88_54 : decode cJ13_bitCount_95d88 54 = .ok (.lstore_n 0, 1) := by decide +kernel
theorem dJ13_bitCount_95d88_55 : decode cJ13_bitCount_95d88 55 = .ok (.lload_n 0, 1) := by decide +kernel
theorem dJ13_bitCount_95d88_56 : decode cJ13_bitCount_95d88 56 = .ok (.l2i, 1) := by decide +kernel
theorem dJ13_bitCount_95d88_57 : decode cJ13_bitCount_95d88 57 = .ok (.bipush 127, 2) := by decide +kernel
theorem dJ13_bitCount_95d88_59 : decode cJ13_bitCount_95d88 59 = .ok (.iand, 1) := by decide +kernel
theorem dJ13_bitCount_95d88_60 : decode cJ13_bitCount_95d88 60 = .ok (.ireturn, 1) := by decide +kernel
theorem dJ9_abs_0f7a4_0 : decode cJ9_abs_0f7a4 0 = .ok (.iload_n 0, 1) := by decide +kernel
theorem dJ9_abs_0f7a4_1 : decode cJ9_abs_0f7a4 1 = .ok (.ifCond .ge 8, 3) := by decide +kernel
theorem dJ9_abs_0f7a4_4 : decode cJ9_abs_0f7a4 4 = .ok (.iload_n 0, 1) := by decide +kernel
theorem dJ9_abs_0f7a4_5 : decode cJ9_abs_0f7a4 5 = .ok (.ineg, 1) := by decide +kernel
theorem dJ9_abs_0f7a4_6 : decode cJ9_abs_0f7a4 6 = .ok (.goto 4, 3) := by decide +kernel
theorem dJ9_abs_0f7a4_9 : decode cJ9_abs_0f7a4 9 = .ok (.iload_n 0, 1) := by decide +kernel
theorem dJ9_abs_0f7a4_10 : decode cJ9_abs_0f7a4 10 = .ok (.ireturn, 1) := by decide +kernel
theorem dJ9_max_7cf53_0 : decode cJ9_max_7cf53 0 = .ok (.iload_n 0, 1) := by decide +kernel
theorem dJ9_max_7cf53_1 : decode cJ9_max_7cf53 1 = .ok (.iload_n 1, 1) := by decide +kernel
theorem dJ9_max_7cf53_2 : decode cJ9_max_7cf53 2 = .ok (.if_icmp .lt 7, 3) := by decide +kernel
theorem dJ9_max_7cf53_5 : decode cJ9_max_7cf53 5 = .ok (.iload_n 0, 1) := by decide +kernel
theorem dJ9_max_7cf53_6 : decode cJ9_max_7cf53 6 = .ok (.goto 4, 3) := by decide +kernel
theorem dJ9_max_7cf53_9 : decode cJ9_max_7cf53 9 = .ok (.iload_n 1, 1) := by decide +kernel
theorem dJ9_max_7cf53_10 : decode cJ9_max_7cf53 10 = .ok (.ireturn, 1) := by decide +kernel
theorem dJ9_min_7cf53_0 : decode cJ9_min_7cf53 0 = .ok (.iload_n 0, 1) := by decide +kernel
theorem dJ9_min_7cf53_1 : decode cJ9_min_7cf53 1 = .ok (.iload_n 1, 1) := by decide +kernel
theorem dJ9_min_7cf53_2 : decode cJ9_min_7cf53 2 = .ok (.if_icmp .gt 7, 3) := by decide +kernel
theorem dJ9_min_7cf53_5 : decode cJ9_min_7cf53 5 = .ok (.iload_n 0, 1) := by decide +kernel
theorem dJ9_min_7cf53_6 : decode cJ9_min_7cf53 6 = .ok (.goto 4, 3) := by decide +kernel
theorem dJ9_min_7cf53_9 : decode cJ9_min_7cf53 9 = .ok (.iload_n 1, 1) := by decide +kernel
theorem dJ9_min_7cf53_10 : decode cJ9_min_7cf53 10 = .ok (.ireturn, 1) := by decide +kernel
theorem dJ0_length_8abf5_0 : decode cJ0_length_8abf5 0 = .ok (.aload_n 0, 1) := by decide +kernel
theorem dJ0_length_8abf5_1 : decode cJ0_length_8abf5 1 = .ok (.getfield 9, 3) := by decide +kernel
theorem dJ0_length_8abf5_4 : decode cJ0_length_8abf5 4 = .ok (.arraylength, 1) := by decide +kernel
theorem dJ0_length_8abf5_5 : decode cJ0_length_8abf5 5 = .ok (.aload_n 0, 1) := by decide +kernel
theorem dJ0_length_8abf5_6 : decode cJ0_length_8abf5 6 = .ok (.invokevirtual 335, 3) := by decide +kernel
theorem dJ0_length_8abf5_9 : decode cJ0_length_8abf5 9 = .ok (.ishr, 1) := by decide +kernel
theorem dJ0_length_8abf5_10 : decode cJ0_length_8abf5 10 = .ok (.ireturn, 1) := by decide +kernel
theorem dJ0_charAt_5068e_0 : decode cJ0_charAt_5068e 0 = .ok (.aload_n 0, 1) := by decide +kernel
theorem dJ0_charAt_5068e_1 : decode cJ0_charAt_5068e 1 = .ok (.invokevirtual 492, 3) := by decide +kernel
theorem dJ0_charAt_5068e_4 : decode cJ0_charAt_5068e 4 = .ok (.ifCond .eq 12, 3) := by decide +kernel
theorem dJ0_charAt_5068e_7 : decode cJ0_charAt_5068e 7 = .ok (.aload_n 0, 1) := by decide +kernel
theorem dJ0_charAt_5068e_8 : decode cJ0_charAt_5068e 8 = .ok (.getfield 9, 3) := by decide +kernel
theorem dJ0_charAt_5068e_11 : decode cJ0_charAt_5068e 11 = .ok (.iload_n 1, 1) := by decide +kernel
theorem dJ0_charAt_5068e_12 : decode cJ0_charAt_5068e 12 = .ok (.invokestatic 495, 3) := by decide +kernel
theorem dJ0_charAt_5068e_15 : decode cJ0_charAt_5068e 15 = .ok (.ireturn, 1) := by decide +kernel
theorem dJ0_charAt_5068e_16 : decode cJ0_charAt_5068e 16 = .ok (.aload_n 0, 1) := by decide +kernel
theorem dJ0_charAt_5068e_17 : decode cJ0_charAt_5068e 17 = .ok (.getfield 9, 3) := by decide +kernel
theorem dJ0_charAt_5068e_20 : decode cJ0_charAt_5068e 20 = .ok (.iload_n 1, 1) := by decide +kernel
theorem dJ0_charAt_5068e_21 : decode cJ0_charAt_5068e 21 = .ok (.invokestatic 498, 3) := by decide +kernel
theorem dJ0_charAt_5068e_24 : decode cJ0_charAt_5068e 24 = .ok (.ireturn, 1) := by decide +kernel
theorem dJ0_coder_7d493_0 : decode cJ0_coder_7d493 0 = .ok (.getstatic 38, 3) := by decide +kernel
theorem dJ0_coder_7d493_3 : decode cJ0_coder_7d493 3 = .ok (.ifCond .eq 10, 3) := by decide +kernel
theorem dJ0_coder_7d493_6 : decode cJ0_coder_7d493 6 = .ok (.aload_n 0, 1) := by decide +kernel
theorem dJ0_coder_7d493_7 : decode cJ0_coder_7d493 7 = .ok (.getfield 15, 3) := by decide +kernel
theorem dJ0_coder_7d493_10 : decode cJ0_coder_7d493 10 = .ok (.goto 4, 3) := by decide +kernel
theorem dJ0_coder_7d493_13 : decode cJ0_coder_7d493 13 = .ok (.iconst 1, 1) := by decide +kernel
theorem dJ0_coder_7d493_14 : decode cJ0_coder_7d493 14 = .ok (.ireturn, 1) := by decide +kernel
theorem dJ0_isLatin1_aae02_0 : decode cJ0_isLatin1_aae02 0 = .ok (.getstatic 38, 3) := by decide +kernel
theorem dJ0_isLatin1_aae02_3 : decode cJ0_isLatin1_aae02 3 = .ok (.ifCond .eq 14, 3) := by decide +kernel
theorem dJ0_isLatin1_aae02_6 : decode cJ0_isLatin1_aae02 6 = .ok (.aload_n 0, 1) := by decide +kernel
theorem dJ0_isLatin1_aae02_7 : decode cJ0_isLatin1_aae02 7 = .ok (.getfield 15, 3) := by decide +kernel
theorem dJ0_isLatin1_aae02_10 : decode cJ0_isLatin1_aae02 10 = .ok (.ifCond .ne 7, 3) := by decide +kernel
theorem dJ0_isLatin1_aae02_13 : decode cJ0_isLatin1_aae02 13 = .ok (.iconst 1, 1) := by decide +kernel
theorem dJ0_isLatin1_aae02_14 : decode cJ0_isLatin1_aae02 14 = .ok (.goto 4, 3) := by decide +kernel
theorem dJ0_isLatin1_aae02_17 : decode cJ0_isLatin1_aae02 17 = .ok (.iconst 0, 1) := by decide +kernel
theorem dJ0_isLatin1_aae02_18 : decode cJ0_isLatin1_aae02 18 = .ok (.ireturn, 1) := by decide +kernel
theorem dJ0_checkIndex_df160_0 : decode cJ0_checkIndex_df160 0 = .ok (.iload_n 0, 1) := by decide +kernel
theorem dJ0_checkIndex_df160_1 : decode cJ0_checkIndex_df160 1 = .ok (.iload_n 1, 1) := by decide +kernel
theorem dJ0_checkIndex_df160_2 : decode cJ0_checkIndex_df160 2 = .ok (.getstatic 1053, 3) := by decide +kernel
theorem dJ0_checkIndex_df160_5 : decode cJ0_checkIndex_df160 5 = .ok (.invokestatic 1059, 3) := by decide +kernel
theorem dJ0_checkIndex_df160_8 : decode cJ0_checkIndex_df160 8 = .ok (.pop, 1) := by decide +kernel
theorem dJ0_checkIndex_df160_9 : decode cJ0_checkIndex_df160 9 = .ok (.return_, 1) := by decide +kernel
theorem dJ1_charAt_3b067_0 : decode cJ1_charAt_3b067 0 = .ok (.iload_n 1, 1) := by decide +kernel
theorem dJ1_charAt_3b067_1 : decode cJ1_charAt_3b067 1 = .ok (.aload_n 0, 1) := by decide +kernel
theorem dJ1_charAt_3b067_2 : decode cJ1_charAt_3b067 2 = .ok (.arraylength, 1) := by decide +kernel
theorem dJ1_charAt_3b067_3 : decode cJ1_charAt_3b067 3 = .ok (.invokestatic 9, 3) := by decide +kernel
theorem dJ1_charAt_3b067_6 : decode cJ1_charAt_3b067 6 = .ok (.aload_n 0, 1) := by decide +kernel
theorem dJ1_charAt_3b067_7 : decode cJ1_charAt_3b067 7 = .ok (.iload_n 1, 1) := by decide +kernel
theorem dJ1_charAt_3b067_8 : decode cJ1_charAt_3b067 8 = .ok (.baload, 1) := by decide +kernel
theorem dJ1_charAt_3b067_9 : decode cJ1_charAt_3b067 9 = .ok (.sipush 255, 3) := by decide +kernel
theorem dJ1_charAt_3b067_12 : decode cJ1_charAt_3b067 12 = .ok (.iand, 1) := by decide +kernel
theorem dJ1_charAt_3b067_13 : decode cJ1_charAt_3b067 13 = .ok (.i2c, 1) := by decide +kernel
theorem dJ1_charAt_3b067_14 : decode cJ1_charAt_3b067 14 = .ok (.ireturn, 1) := by decide +kernel
theorem dJ2_getChar_3b067_0 : decode cJ2_getChar_3b067 0 = .ok (.getstatic 44, 3) := by decide +kernel
theorem dJ2_getChar_3b067_3 : decode cJ2_getChar_3b067 3 = .ok (.ifCond .ne 25, 3) := by decide +kernel
theorem dJ2_getChar_3b067_6 : decode cJ2_getChar_3b067 6 = .ok (.iload_n 1, 1) := by decide +kernel
theorem dJ2_getChar_3b067_7 : decode cJ2_getChar_3b067 7 = .ok (.ifCond .lt 11, 3) := by decide +kernel
theorem dJ2_getChar_3b067_10 : decode cJ2_getChar_3b067 10 = .ok (.iload_n 1, 1) := by decide +kernel
theorem dJ2_getChar_3b067_11 : decode cJ2_getChar_3b067 11 = .ok (.aload_n 0, 1) := by decide +kernel
theorem dJ2_getChar_3b067_12 : decode cJ2_getChar_3b067 12 = .ok (.invokestatic 48, 3) := by decide +kernel
theorem dJ2_getChar_3b067_15 : decode cJ2_getChar_3b067 15 = .ok (.if_icmp .lt 13, 3) := by decide +kernel
theorem dJ2_getChar_3b067_18 : decode cJ2_getChar_3b067 18 = .ok (.new 52, 3) := by decide +kernel
theorem dJ2_getChar_3b067_21 : decode cJ2_getChar_3b067 21 = .ok (.dup, 1) := by decide +kernel
theorem dJ2_getChar_3b067_22 : decode cJ2_getChar_3b067 22 = .ok (.ldc 54, 2) := by decide +kernel
theorem dJ2_getChar_3b067_24 : decode cJ2_getChar_3b067 24 = .ok (.invokespecial 56, 3) := by decide +kernel
theorem dJ2_getChar_3b067_27 : decode cJ2_getChar_3b067 27 = .ok (.athrow, 1) := by decide +kernel
theorem dJ2_getChar_3b067_28 : decode cJ2_getChar_3b067 28 = .ok (.iload_n 1, 1) := by decide +kernel
theorem dJ2_getChar_3b067_29 : decode cJ2_getChar_3b067 29 = .ok (.iconst 1, 1) := by decide +kernel
theorem dJ2_getChar_3b067_30 : decode cJ2_getChar_3b067 30 = .ok (.ishl, 1) := by decide +kernel
theorem dJ2_getChar_3b067_31 : decode cJ2_getChar_3b067 31 = .ok (.istore_n 1, 1) := by decide +kernel
theorem dJ2_getChar_3b067_32 : decode cJ2_getChar_3b067 32 = .ok (.aload_n 0, 1) := by decide +kernel
theorem dJ2_getChar_3b067_33 : decode cJ2_getChar_3b067 33 = .ok (.iload_n 1, 1) := by decide +kernel
theorem dJ2_getChar_3b067_34 : decode cJ2_getChar_3b067 34 = .ok (.iinc 1 1, 3) := by decide +kernel
theorem dJ2_getChar_3b067_37 : decode cJ2_getChar_3b067 37 = .ok (.baload, 1) := by decide +kernel
theorem dJ2_getChar_3b067_38 : decode cJ2_getChar_3b067 38 = .ok (.sipush 255, 3) := by decide +kernel
theorem dJ2_getChar_3b067_41 : decode cJ2_getChar_3b067 41 = .ok (.iand, 1) := by decide +kernel
theorem dJ2_getChar_3b067_42 : decode cJ2_getChar_3b067 42 = .ok (.getstatic 59, 3) := by decide +kernel
theorem dJ2_getChar_3b067_45 : decode cJ2_getChar_3b067 45 = .ok (.ishl, 1) := by decide +kernel
theorem dJ2_getChar_3b067_46 : decode cJ2_getChar_3b067 46 = .ok (.aload_n 0, 1) := by decide +kernel
theorem dJ2_getChar_3b067_47 : decode cJ2_getChar_3b067 47 = .ok (.iload_n 1, 1) := by decide +kernel
theorem dJ2_getChar_3b067_48 : decode cJ2_getChar_3b067 48 = .ok (.baload, 1) := by decide +kernel
theorem dJ2_getChar_3b067_49 : decode cJ2_getChar_3b067 49 = .ok (.sipush 255, 3) := by decide +kernel
theorem dJ2_getChar_3b067_52 : decode cJ2_getChar_3b067 52 = .ok (.iand, 1) := by decide +kernel
theorem dJ2_getChar_3b067_53 : decode cJ2_getChar_3b067 53 = .ok (.getstatic 63, 3) := by decide +kernel
theorem dJ2_getChar_3b067_56 : decode cJ2_getChar_3b067 56 = .ok (.ishl, 1) := by decide +kernel
theorem dJ2_getChar_3b067_57 : decode cJ2_getChar_3b067 57 = .ok (.ior, 1) := by decide +kernel
theorem dJ2_getChar_3b067_58 : decode cJ2_getChar_3b067 58 = .ok (.i2c, 1) := by decide +kernel
theorem dJ2_getChar_3b067_59 : decode cJ2_getChar_3b067 59 = .ok (.ireturn, 1) := by decide +kernel
theorem dJ2_length_9d52b_0 : decode cJ2_length_9d52b 0 = .ok (.aload_n 0, 1) := by decide +kernel
theorem dJ2_length_9d52b_1 : decode cJ2_length_9d52b 1 = .ok (.arraylength, 1) := by decide +kernel
theorem dJ2_length_9d52b_2 : decode cJ2_length_9d52b 2 = .ok (.iconst 1, 1) := by decide +kernel
theorem dJ2_length_9d52b_3 : decode cJ2_length_9d52b 3 = .ok (.ishr, 1) := by decide +kernel
theorem dJ2_length_9d52b_4 : decode cJ2_length_9d52b 4 = .ok (.ireturn, 1) := by decide +kernel
theorem dJ2_charAt_3b067_0 : decode cJ2_charAt_3b067 0 = .ok (.iload_n 1, 1) := by decide +kernel
theorem dJ2_charAt_3b067_1 : decode cJ2_charAt_3b067 1 = .ok (.aload_n 0, 1) := by decide +kernel
theorem dJ2_charAt_3b067_2 : decode cJ2_charAt_3b067 2 = .ok (.invokestatic 67, 3) := by decide +kernel
theorem dJ2_charAt_3b067_5 : decode cJ2_charAt_3b067 5 = .ok (.aload_n 0, 1) := by decide +kernel
theorem dJ2_charAt_3b067_6 : decode cJ2_charAt_3b067 6 = .ok (.iload_n 1, 1) := by decide +kernel
theorem dJ2_charAt_3b067_7 : decode cJ2_charAt_3b067 7 = .ok (.invokestatic 71, 3) := by decide +kernel
theorem dJ2_charAt_3b067_10 : decode cJ2_charAt_3b067 10 = .ok (.ireturn, 1) := by decide +kernel
theorem dJ2_checkIndex_2214a_0 : decode cJ2_checkIndex_2214a 0 = .ok (.iload_n 0, 1) := by decide +kernel
theorem dJ2_checkIndex_2214a_1 : decode cJ2_checkIndex_2214a 1 = .ok (.aload_n 1, 1) := by decide +kernel
theorem dJ2_checkIndex_2214a_2 : decode cJ2_checkIndex_2214a 2 = .ok (.invokestatic 48, 3) := by decide +kernel
theorem dJ2_checkIndex_2214a_5 : decode cJ2_checkIndex_2214a 5 = .ok (.invokestatic 414, 3) := by decide +kernel
theorem dJ2_checkIndex_2214a_8 : decode cJ2_checkIndex_2214a 8 = .ok (.return_, 1) := by decide +kernel
theorem dJ3_checkIndex_8e157_0 : decode cJ3_checkIndex_8e157 0 = .ok (.iload_n 0, 1) := by decide +kernel
theorem dJ3_checkIndex_8e157_1 : decode cJ3_checkIndex_8e157 1 = .ok (.ifCond .lt 8, 3) := by decide +kernel
theorem dJ3_checkIndex_8e157_4 : decode cJ3_checkIndex_8e157 4 = .ok (.iload_n 0, 1) := by decide +kernel
theorem dJ3_checkIndex_8e157_5 : decode cJ3_checkIndex_8e157 5 = .ok (.iload_n 1, 1) := by decide +kernel
theorem dJ3_checkIndex_8e157_6 : decode cJ3_checkIndex_8e157 6 = .ok (.if_icmp .lt 10, 3) := by decide +kernel
theorem dJ3_checkIndex_8e157_9 : decode cJ3_checkIndex_8e157 9 = .ok (.aload_n 2, 1) := by decide +kernel
theorem dJ3_checkIndex_8e157_10 : decode cJ3_checkIndex_8e157 10 = .ok (.iload_n 0, 1) := by decide +kernel
theorem dJ3_checkIndex_8e157_11 : decode cJ3_checkIndex_8e157 11 = .ok (.iload_n 1, 1) := by decide +kernel
theorem dJ3_checkIndex_8e157_12 : decode cJ3_checkIndex_8e157 12 = .ok (.invokestatic 95, 3) := by decide +kernel
theorem dJ3_checkIndex_8e157_15 : decode cJ3_checkIndex_8e157 15 = .ok (.athrow, 1) := by decide +kernel
theorem dJ3_checkIndex_8e157_16 : decode cJ3_checkIndex_8e157 16 = .ok (.iload_n 0, 1) := by decide +kernel
theorem dJ3_checkIndex_8e157_17 : decode cJ3_checkIndex_8e157 17 = .ok (.ireturn, 1) := by decide +kernel
theorem dL_law_0 : decode cL_law 0 = .ok (.new 7, 3) := by decide +kernel
theorem dL_law_3 : decode cL_law 3 = .ok (.dup, 1) := by decide +kernel
theorem dL_law_4 : decode cL_law 4 = .ok (.invokespecial 9, 3) := by decide +kernel
theorem dL_law_7 : decode cL_law 7 = .ok (.astore_n 1, 1) := by decide +kernel
theorem dL_law_8 : decode cL_law 8 = .ok (.new 10, 3) := by decide +kernel
theorem dL_law_11 : decode cL_law 11 = .ok (.dup, 1) := by decide +kernel
theorem dL_law_12 : decode cL_law 12 = .ok (.invokespecial 12, 3) := by decide +kernel
theorem dL_law_15 : decode cL_law 15 = .ok (.astore_n 2, 1) := by decide +kernel
theorem dL_law_16 : decode cL_law 16 = .ok (.iconst 0, 1) := by decide +kernel
theorem dL_law_17 : decode cL_law 17 = .ok (.istore_n 3, 1) := by decide +kernel
theorem dL_law_18 : decode cL_law 18 = .ok (.iload_n 3, 1) := by decide +kernel
theorem dL_law_19 : decode cL_law 19 = .ok (.aload_n 0, 1) := by decide +kernel
theorem dL_law_20 : decode cL_law 20 = .ok (.arraylength, 1) := by decide +kernel
theorem dL_law_21 : decode cL_law 21 = .ok (.bipush 6, 2) := by decide +kernel
theorem dL_law_23 : decode cL_law 23 = .ok (.isub, 1) := by decide +kernel
theorem dL_law_24 : decode cL_law 24 = .ok (.if_icmp .gt 1080, 3) := by decide +kernel
theorem dL_law_27 : decode cL_law 27 = .ok (.aload_n 0, 1) := by decide +kernel
theorem dL_law_28 : decode cL_law 28 = .ok (.iload_n 3, 1) := by decide +kernel
theorem dL_law_29 : decode cL_law 29 = .ok (.iaload, 1) := by decide +kernel
theorem dL_law_30 : decode cL_law 30 = .ok (.bipush 63, 2) := by decide +kernel
theorem dL_law_32 : decode cL_law 32 = .ok (.iand, 1) := by decide +kernel
theorem dL_law_33 : decode cL_law 33 = .ok (.tableswitch 1065 0 33 #[151, 184, 207, 230, 293, 326, 359, 372, 395, 408, 421, 464, 507, 540, 563, 586, 609, 632, 645, 678, 721, 744, 777, 820, 833, 856, 879, 892, 935, 959, 982, 1005, 1028, 1051], 151) := by decide +kernel
theorem dL_law_184 : decode cL_law 184 = .ok (.aload_n 1, 1) := by decide +kernel
theorem dL_law_185 : decode cL_law 185 = .ok (.aload_n 0, 1) := by decide +kernel
theorem dL_law_186 : decode cL_law 186 = .ok (.iload_n 3, 1) := by decide +kernel
theorem dL_law_187 : decode cL_law 187 = .ok (.iconst 1, 1) := by decide +kernel
theorem dL_law_188 : decode cL_law 188 = .ok (.iadd, 1) := by decide +kernel
theorem dL_law_189 : decode cL_law 189 = .ok (.iaload, 1) := by decide +kernel
theorem dL_law_190 : decode cL_law 190 = .ok (.aload_n 0, 1) := by decide +kernel
theorem dL_law_191 : decode cL_law 191 = .ok (.iload_n 3, 1) := by decide +kernel
theorem dL_law_192 : decode cL_law 192 = .ok (.iconst 2, 1) := by decide +kernel
theorem dL_law_193 : decode cL_law 193 = .ok (.iadd, 1) := by decide +kernel
theorem dL_law_194 : decode cL_law 194 = .ok (.iaload, 1) := by decide +kernel
theorem dL_law_195 : decode cL_law 195 = .ok (.invokevirtual 13, 3) := by decide +kernel
theorem dL_law_198 : decode cL_law 198 = .ok (.aload_n 2, 1) := by decide +kernel
theorem dL_law_199 : decode cL_law 199 = .ok (.aload_n 0, 1) := by decide +kernel
theorem dL_law_200 : decode cL_law 200 = .ok (.iload_n 3, 1) := by decide +kernel
theorem dL_law_201 : decode cL_law 201 = .ok (.iconst 1, 1) := by decide +kernel
theorem dL_law_202 : decode cL_law 202 = .ok (.iadd, 1) := by decide +kernel
theorem dL_law_203 : decode cL_law 203 = .ok (.iaload, 1) := by decide +kernel
theorem dL_law_204 : decode cL_law 204 = .ok (.aload_n 0, 1) := by decide +kernel
theorem dL_law_205 : decode cL_law 205 = .ok (.iload_n 3, 1) := by decide +kernel
theorem dL_law_206 : decode cL_law 206 = .ok (.iconst 2, 1) := by decide +kernel
theorem dL_law_207 : decode cL_law 207 = .ok (.iadd, 1) := by decide +kernel
theorem dL_law_208 : decode cL_law 208 = .ok (.iaload, 1) := by decide +kernel
theorem dL_law_209 : decode cL_law 209 = .ok (.invokevirtual 17, 3) := by decide +kernel
theorem dL_law_212 : decode cL_law 212 = .ok (.if_icmp .eq 886, 3) := by decide +kernel
theorem dL_law_215 : decode cL_law 215 = .ok (.iconst 0, 1) := by decide +kernel
theorem dL_law_216 : decode cL_law 216 = .ok (.ireturn, 1) := by decide +kernel
theorem dL_law_217 : decode cL_law 217 = .ok (.aload_n 1, 1) := by decide +kernel
theorem dL_law_218 : decode cL_law 218 = .ok (.aload_n 0, 1) := by decide +kernel
theorem dL_law_219 : decode cL_law 219 = .ok (.iload_n 3, 1) := by decide +kernel
theorem dL_law_220 : decode cL_law 220 = .ok (.iconst 1, 1) := by decide +kernel
theorem dL_law_221 : decode cL_law 221 = .ok (.iadd, 1) := by decide +kernel
theorem dL_law_222 : decode cL_law 222 = .ok (.iaload, 1) := by decide +kernel
theorem dL_law_223 : decode cL_law 223 = .ok (.invokevirtual 18, 3) := by decide +kernel
theorem dL_law_226 : decode cL_law 226 = .ok (.aload_n 2, 1) := by decide +kernel
theorem dL_law_227 : decode cL_law 227 = .ok (.aload_n 0, 1) := by decide +kernel
theorem dL_law_228 : decode cL_law 228 = .ok (.iload_n 3, 1) := by decide +kernel
theorem dL_law_229 : decode cL_law 229 = .ok (.iconst 1, 1) := by decide +kernel
theorem dL_law_230 : decode cL_law 230 = .ok (.iadd, 1) := by decide +kernel
theorem dL_law_231 : decode cL_law 231 = .ok (.iaload, 1) := by decide +kernel
theorem dL_law_232 : decode cL_law 232 = .ok (.invokevirtual 22, 3) := by decide +kernel
theorem dL_law_235 : decode cL_law 235 = .ok (.if_icmp .eq 863, 3) := by decide +kernel
theorem dL_law_238 : decode cL_law 238 = .ok (.iconst 0, 1) := by decide +kernel
theorem dL_law_239 : decode cL_law 239 = .ok (.ireturn, 1) := by decide +kernel
theorem dL_law_240 : decode cL_law 240 = .ok (.aload_n 1, 1) := by decide +kernel
theorem dL_law_241 : decode cL_law 241 = .ok (.aload_n 0, 1) := by decide +kernel
theorem dL_law_242 : decode cL_law 242 = .ok (.iload_n 3, 1) := by decide +kernel
theorem dL_law_243 : decode cL_law 243 = .ok (.iconst 1, 1) := by decide +kernel
theorem dL_law_244 : decode cL_law 244 = .ok (.iadd, 1) := by decide +kernel
theorem dL_law_245 : decode cL_law 245 = .ok (.iaload, 1) := by decide +kernel
theorem dL_law_246 : decode cL_law 246 = .ok (.invokevirtual 23, 3) := by decide +kernel
theorem dL_law_249 : decode cL_law 249 = .ok (.aload_n 2, 1) := by decide +kernel
theorem dL_law_250 : decode cL_law 250 = .ok (.aload_n 0, 1) := by decide +kernel
theorem dL_law_251 : decode cL_law 251 = .ok (.iload_n 3, 1) := by decide +kernel
theorem dL_law_252 : decode cL_law 252 = .ok (.iconst 1, 1) := by decide +kernel
theorem dL_law_253 : decode cL_law 253 = .ok (.iadd, 1) := by decide +kernel
theorem dL_law_254 : decode cL_law 254 = .ok (.iaload, 1) := by decide +kernel
theorem dL_law_255 : decode cL_law 255 = .ok (.invokevirtual 26, 3) := by decide +kernel
theorem dL_law_258 : decode cL_law 258 = .ok (.if_icmp .eq 840, 3) := by decide +kernel
theorem dL_law_261 : decode cL_law 261 = .ok (.iconst 0, 1) := by decide +kernel
theorem dL_law_262 : decode cL_law 262 = .ok (.ireturn, 1) := by decide +kernel
theorem dL_law_263 : decode cL_law 263 = .ok (.aload_n 1, 1) := by decide +kernel
theorem dL_law_264 : decode cL_law 264 = .ok (.aload_n 0, 1) := by decide +kernel
theorem dL_law_265 : decode cL_law 265 = .ok (.iload_n 3, 1) := by decide +kernel
theorem dL_law_266 : decode cL_law 266 = .ok (.iconst 1, 1) := by decide +kernel
theorem dL_law_267 : decode cL_law 267 = .ok (.iadd, 1) := by decide +kernel
theorem dL_law_268 : decode cL_law 268 = .ok (.iaload, 1) := by decide +kernel
theorem dL_law_269 : decode cL_law 269 = .ok (.aload_n 0, 1) := by decide +kernel
theorem dL_law_270 : decode cL_law 270 = .ok (.iload_n 3, 1) := by decide +kernel
theorem dL_law_271 : decode cL_law 271 = .ok (.iconst 2, 1) := by decide +kernel
theorem dL_law_272 : decode cL_law 272 = .ok (.iadd, 1) := by decide +kernel
theorem dL_law_273 : decode cL_law 273 = .ok (.iaload, 1) := by decide +kernel
theorem dL_law_274 : decode cL_law 274 = .ok (.aload_n 0, 1) := by decide +kernel
theorem dL_law_275 : decode cL_law 275 = .ok (.iload_n 3, 1) := by decide +kernel
theorem dL_law_276 : decode cL_law 276 = .ok (.iconst 3, 1) := by decide +kernel
theorem dL_law_277 : decode cL_law 277 = .ok (.iadd, 1) := by decide +kernel
theorem dL_law_278 : decode cL_law 278 = .ok (.iaload, 1) := by decide +kernel
theorem dL_law_279 : decode cL_law 279 = .ok (.aload_n 0, 1) := by decide +kernel
theorem dL_law_280 : decode cL_law 280 = .ok (.iload_n 3, 1) := by decide +kernel
theorem dL_law_281 : decode cL_law 281 = .ok (.iconst 4, 1) := by decide +kernel
theorem dL_law_282 : decode cL_law 282 = .ok (.iadd, 1) := by decide +kernel
theorem dL_law_283 : decode cL_law 283 = .ok (.iaload, 1) := by decide +kernel
theorem dL_law_284 : decode cL_law 284 = .ok (.aload_n 0, 1) := by decide +kernel
theorem dL_law_285 : decode cL_law 285 = .ok (.iload_n 3, 1) := by decide +kernel
theorem dL_law_286 : decode cL_law 286 = .ok (.iconst 5, 1) := by decide +kernel
theorem dL_law_287 : decode cL_law 287 = .ok (.iadd, 1) := by decide +kernel
theorem dL_law_288 : decode cL_law 288 = .ok (.iaload, 1) := by decide +kernel
theorem dL_law_289 : decode cL_law 289 = .ok (.invokevirtual 27, 3) := by decide +kernel
theorem dL_law_292 : decode cL_law 292 = .ok (.aload_n 2, 1) := by decide +kernel
theorem dL_law_293 : decode cL_law 293 = .ok (.aload_n 0, 1) := by decide +kernel
theorem dL_law_294 : decode cL_law 294 = .ok (.iload_n 3, 1) := by decide +kernel
theorem dL_law_295 : decode cL_law 295 = .ok (.iconst 1, 1) := by decide +kernel
theorem dL_law_296 : decode cL_law 296 = .ok (.iadd, 1) := by decide +kernel
theorem dL_law_297 : decode cL_law 297 = .ok (.iaload, 1) := by decide +kernel
theorem dL_law_298 : decode cL_law 298 = .ok (.aload_n 0, 1) := by decide +kernel
theorem dL_law_299 : decode cL_law 299 = .ok (.iload_n 3, 1) := by decide +kernel
theorem dL_law_300 : decode cL_law 300 = .ok (.iconst 2, 1) := by decide +kernel
theorem dL_law_301 : decode cL_law 301 = .ok (.iadd, 1) := by decide +kernel
theorem dL_law_302 : decode cL_law 302 = .ok (.iaload, 1) := by decide +kernel
theorem dL_law_303 : decode cL_law 303 = .ok (.aload_n 0, 1) := by decide +kernel
theorem dL_law_304 : decode cL_law 304 = .ok (.iload_n 3, 1) := by decide +kernel
theorem dL_law_305 : decode cL_law 305 = .ok (.iconst 3, 1) := by decide +kernel
theorem dL_law_306 : decode cL_law 306 = .ok (.iadd, 1) := by decide +kernel
theorem dL_law_307 : decode cL_law 307 = .ok (.iaload, 1) := by decide +kernel
theorem dL_law_308 : decode cL_law 308 = .ok (.aload_n 0, 1) := by decide +kernel
theorem dL_law_309 : decode cL_law 309 = .ok (.iload_n 3, 1) := by decide +kernel
theorem dL_law_310 : decode cL_law 310 = .ok (.iconst 4, 1) := by decide +kernel
theorem dL_law_311 : decode cL_law 311 = .ok (.iadd, 1) := by decide +kernel
theorem dL_law_312 : decode cL_law 312 = .ok (.iaload, 1) := by decide +kernel
theorem dL_law_313 : decode cL_law 313 = .ok (.aload_n 0, 1) := by decide +kernel
theorem dL_law_314 : decode cL_law 314 = .ok (.iload_n 3, 1) := by decide +kernel
theorem dL_law_315 : decode cL_law 315 = .ok (.iconst 5, 1) := by decide +kernel
theorem dL_law_316 : decode cL_law 316 = .ok (.iadd, 1) := by decide +kernel
theorem dL_law_317 : decode cL_law 317 = .ok (.iaload, 1) := by decide +kernel
theorem dL_law_318 : decode cL_law 318 = .ok (.invokevirtual 31, 3) := by decide +kernel
theorem dL_law_321 : decode cL_law 321 = .ok (.if_icmp .eq 777, 3) := by decide +kernel
theorem dL_law_324 : decode cL_law 324 = .ok (.iconst 0, 1) := by decide +kernel
theorem dL_law_325 : decode cL_law 325 = .ok (.ireturn, 1) := by decide +kernel
theorem dL_law_326 : decode cL_law 326 = .ok (.aload_n 1, 1) := by decide +kernel
theorem dL_law_327 : decode cL_law 327 = .ok (.aload_n 0, 1) := by decide +kernel
theorem dL_law_328 : decode cL_law 328 = .ok (.iload_n 3, 1) := by decide +kernel
theorem dL_law_329 : decode cL_law 329 = .ok (.iconst 1, 1) := by decide +kernel
theorem dL_law_330 : decode cL_law 330 = .ok (.iadd, 1) := by decide +kernel
theorem dL_law_331 : decode cL_law 331 = .ok (.iaload, 1) := by decide +kernel
theorem dL_law_332 : decode cL_law 332 = .ok (.aload_n 0, 1) := by decide +kernel
theorem dL_law_333 : decode cL_law 333 = .ok (.iload_n 3, 1) := by decide +kernel
theorem dL_law_334 : decode cL_law 334 = .ok (.iconst 2, 1) := by decide +kernel
theorem dL_law_335 : decode cL_law 335 = .ok (.iadd, 1) := by decide +kernel
theorem dL_law_336 : decode cL_law 336 = .ok (.iaload, 1) := by decide +kernel
theorem dL_law_337 : decode cL_law 337 = .ok (.invokevirtual 32, 3) := by decide +kernel
theorem dL_law_340 : decode cL_law 340 = .ok (.aload_n 2, 1) := by decide +kernel
theorem dL_law_341 : decode cL_law 341 = .ok (.aload_n 0, 1) := by decide +kernel
theorem dL_law_342 : decode cL_law 342 = .ok (.iload_n 3, 1) := by decide +kernel
theorem dL_law_343 : decode cL_law 343 = .ok (.iconst 1, 1) := by decide +kernel
theorem dL_law_344 : decode cL_law 344 = .ok (.iadd, 1) := by decide +kernel
theorem dL_law_345 : decode cL_law 345 = .ok (.iaload, 1) := by decide +kernel
theorem dL_law_346 : decode cL_law 346 = .ok (.aload_n 0, 1) := by decide +kernel
theorem dL_law_347 : decode cL_law 347 = .ok (.iload_n 3, 1) := by decide +kernel
theorem dL_law_348 : decode cL_law 348 = .ok (.iconst 2, 1) := by decide +kernel
theorem dL_law_349 : decode cL_law 349 = .ok (.iadd, 1) := by decide +kernel
theorem dL_law_350 : decode cL_law 350 = .ok (.iaload, 1) := by decide +kernel
theorem dL_law_351 : decode cL_law 351 = .ok (.invokevirtual 35, 3) := by decide +kernel
theorem dL_law_354 : decode cL_law 354 = .ok (.if_icmp .eq 744, 3) := by decide +kernel
theorem dL_law_357 : decode cL_law 357 = .ok (.iconst 0, 1) := by decide +kernel
theorem dL_law_358 : decode cL_law 358 = .ok (.ireturn, 1) := by decide +kernel
theorem dL_law_359 : decode cL_law 359 = .ok (.aload_n 1, 1) := by decide +kernel
theorem dL_law_360 : decode cL_law 360 = .ok (.aload_n 0, 1) := by decide +kernel
theorem dL_law_361 : decode cL_law 361 = .ok (.iload_n 3, 1) := by decide +kernel
theorem dL_law_362 : decode cL_law 362 = .ok (.iconst 1, 1) := by decide +kernel
theorem dL_law_363 : decode cL_law 363 = .ok (.iadd, 1) := by decide +kernel
theorem dL_law_364 : decode cL_law 364 = .ok (.iaload, 1) := by decide +kernel
theorem dL_law_365 : decode cL_law 365 = .ok (.aload_n 0, 1) := by decide +kernel
theorem dL_law_366 : decode cL_law 366 = .ok (.iload_n 3, 1) := by decide +kernel
theorem dL_law_367 : decode cL_law 367 = .ok (.iconst 2, 1) := by decide +kernel
theorem dL_law_368 : decode cL_law 368 = .ok (.iadd, 1) := by decide +kernel
theorem dL_law_369 : decode cL_law 369 = .ok (.iaload, 1) := by decide +kernel
theorem dL_law_370 : decode cL_law 370 = .ok (.invokevirtual 36, 3) := by decide +kernel
theorem dL_law_373 : decode cL_law 373 = .ok (.aload_n 2, 1) := by decide +kernel
theorem dL_law_374 : decode cL_law 374 = .ok (.aload_n 0, 1) := by decide +kernel
theorem dL_law_375 : decode cL_law 375 = .ok (.iload_n 3, 1) := by decide +kernel
theorem dL_law_376 : decode cL_law 376 = .ok (.iconst 1, 1) := by decide +kernel
theorem dL_law_377 : decode cL_law 377 = .ok (.iadd, 1) := by decide +kernel
theorem dL_law_378 : decode cL_law 378 = .ok (.iaload, 1) := by decide +kernel
theorem dL_law_379 : decode cL_law 379 = .ok (.aload_n 0, 1) := by decide +kernel
theorem dL_law_380 : decode cL_law 380 = .ok (.iload_n 3, 1) := by decide +kernel
theorem dL_law_381 : decode cL_law 381 = .ok (.iconst 2, 1) := by decide +kernel
theorem dL_law_382 : decode cL_law 382 = .ok (.iadd, 1) := by decide +kernel
theorem dL_law_383 : decode cL_law 383 = .ok (.iaload, 1) := by decide +kernel
theorem dL_law_384 : decode cL_law 384 = .ok (.invokevirtual 39, 3) := by decide +kernel
theorem dL_law_387 : decode cL_law 387 = .ok (.if_icmp .eq 711, 3) := by decide +kernel
theorem dL_law_390 : decode cL_law 390 = .ok (.iconst 0, 1) := by decide +kernel
theorem dL_law_391 : decode cL_law 391 = .ok (.ireturn, 1) := by decide +kernel
theorem dL_law_392 : decode cL_law 392 = .ok (.aload_n 1, 1) := by decide +kernel
theorem dL_law_393 : decode cL_law 393 = .ok (.invokevirtual 40, 3) := by decide +kernel
theorem dL_law_396 : decode cL_law 396 = .ok (.aload_n 2, 1) := by decide +kernel
theorem dL_law_397 : decode cL_law 397 = .ok (.invokevirtual 44, 3) := by decide +kernel
theorem dL_law_400 : decode cL_law 400 = .ok (.if_icmp .eq 698, 3) := by decide +kernel
theorem dL_law_403 : decode cL_law 403 = .ok (.iconst 0, 1) := by decide +kernel
theorem dL_law_404 : decode cL_law 404 = .ok (.ireturn, 1) := by decide +kernel
theorem dL_law_405 : decode cL_law 405 = .ok (.aload_n 1, 1) := by decide +kernel
theorem dL_law_406 : decode cL_law 406 = .ok (.aload_n 0, 1) := by decide +kernel
theorem dL_law_407 : decode cL_law 407 = .ok (.iload_n 3, 1) := by decide +kernel
theorem dL_law_408 : decode cL_law 408 = .ok (.iconst 1, 1) := by decide +kernel
theorem dL_law_409 : decode cL_law 409 = .ok (.iadd, 1) := by decide +kernel
theorem dL_law_410 : decode cL_law 410 = .ok (.iaload, 1) := by decide +kernel
theorem dL_law_411 : decode cL_law 411 = .ok (.invokevirtual 45, 3) := by decide +kernel
theorem dL_law_414 : decode cL_law 414 = .ok (.aload_n 2, 1) := by decide +kernel
theorem dL_law_415 : decode cL_law 415 = .ok (.aload_n 0, 1) := by decide +kernel
theorem dL_law_416 : decode cL_law 416 = .ok (.iload_n 3, 1) := by decide +kernel
theorem dL_law_417 : decode cL_law 417 = .ok (.iconst 1, 1) := by decide +kernel
theorem dL_law_418 : decode cL_law 418 = .ok (.iadd, 1) := by decide +kernel
theorem dL_law_419 : decode cL_law 419 = .ok (.iaload, 1) := by decide +kernel
theorem dL_law_420 : decode cL_law 420 = .ok (.invokevirtual 48, 3) := by decide +kernel
theorem dL_law_423 : decode cL_law 423 = .ok (.if_icmp .eq 675, 3) := by decide +kernel
theorem dL_law_426 : decode cL_law 426 = .ok (.iconst 0, 1) := by decide +kernel
theorem dL_law_427 : decode cL_law 427 = .ok (.ireturn, 1) := by decide +kernel
theorem dL_law_428 : decode cL_law 428 = .ok (.aload_n 1, 1) := by decide +kernel
theorem dL_law_429 : decode cL_law 429 = .ok (.invokevirtual 49, 3) := by decide +kernel
theorem dL_law_432 : decode cL_law 432 = .ok (.aload_n 2, 1) := by decide +kernel
theorem dL_law_433 : decode cL_law 433 = .ok (.invokevirtual 52, 3) := by decide +kernel
theorem dL_law_436 : decode cL_law 436 = .ok (.if_icmp .eq 662, 3) := by decide +kernel
theorem dL_law_439 : decode cL_law 439 = .ok (.iconst 0, 1) := by decide +kernel
theorem dL_law_440 : decode cL_law 440 = .ok (.ireturn, 1) := by decide +kernel
theorem dL_law_441 : decode cL_law 441 = .ok (.aload_n 1, 1) := by decide +kernel
theorem dL_law_442 : decode cL_law 442 = .ok (.invokevirtual 53, 3) := by decide +kernel
theorem dL_law_445 : decode cL_law 445 = .ok (.aload_n 2, 1) := by decide +kernel
theorem dL_law_446 : decode cL_law 446 = .ok (.invokevirtual 56, 3) := by decide +kernel
theorem dL_law_449 : decode cL_law 449 = .ok (.if_icmp .eq 649, 3) := by decide +kernel
theorem dL_law_452 : decode cL_law 452 = .ok (.iconst 0, 1) := by decide +kernel
theorem dL_law_453 : decode cL_law 453 = .ok (.ireturn, 1) := by decide +kernel
theorem dL_law_454 : decode cL_law 454 = .ok (.aload_n 1, 1) := by decide +kernel
theorem dL_law_455 : decode cL_law 455 = .ok (.aload_n 0, 1) := by decide +kernel
theorem dL_law_456 : decode cL_law 456 = .ok (.iload_n 3, 1) := by decide +kernel
theorem dL_law_457 : decode cL_law 457 = .ok (.iconst 1, 1) := by decide +kernel
theorem dL_law_458 : decode cL_law 458 = .ok (.iadd, 1) := by decide +kernel
theorem dL_law_459 : decode cL_law 459 = .ok (.iaload, 1) := by decide +kernel
theorem dL_law_460 : decode cL_law 460 = .ok (.aload_n 0, 1) := by decide +kernel
theorem dL_law_461 : decode cL_law 461 = .ok (.iload_n 3, 1) := by decide +kernel
theorem dL_law_462 : decode cL_law 462 = .ok (.iconst 2, 1) := by decide +kernel
theorem dL_law_463 : decode cL_law 463 = .ok (.iadd, 1) := by decide +kernel
theorem dL_law_464 : decode cL_law 464 = .ok (.iaload, 1) := by decide +kernel
theorem dL_law_465 : decode cL_law 465 = .ok (.aload_n 0, 1) := by decide +kernel
theorem dL_law_466 : decode cL_law 466 = .ok (.iload_n 3, 1) := by decide +kernel
theorem dL_law_467 : decode cL_law 467 = .ok (.iconst 3, 1) := by decide +kernel
theorem dL_law_468 : decode cL_law 468 = .ok (.iadd, 1) := by decide +kernel
theorem dL_law_469 : decode cL_law 469 = .ok (.iaload, 1) := by decide +kernel
theorem dL_law_470 : decode cL_law 470 = .ok (.invokevirtual 57, 3) := by decide +kernel
theorem dL_law_473 : decode cL_law 473 = .ok (.aload_n 2, 1) := by decide +kernel
theorem dL_law_474 : decode cL_law 474 = .ok (.aload_n 0, 1) := by decide +kernel
theorem dL_law_475 : decode cL_law 475 = .ok (.iload_n 3, 1) := by decide +kernel
theorem dL_law_476 : decode cL_law 476 = .ok (.iconst 1, 1) := by decide +kernel
theorem dL_law_477 : decode cL_law 477 = .ok (.iadd, 1) := by decide +kernel
theorem dL_law_478 : decode cL_law 478 = .ok (.iaload, 1) := by decide +kernel
theorem dL_law_479 : decode cL_law 479 = .ok (.aload_n 0, 1) := by decide +kernel
theorem dL_law_480 : decode cL_law 480 = .ok (.iload_n 3, 1) := by decide +kernel
theorem dL_law_481 : decode cL_law 481 = .ok (.iconst 2, 1) := by decide +kernel
theorem dL_law_482 : decode cL_law 482 = .ok (.iadd, 1) := by decide +kernel
theorem dL_law_483 : decode cL_law 483 = .ok (.iaload, 1) := by decide +kernel
theorem dL_law_484 : decode cL_law 484 = .ok (.aload_n 0, 1) := by decide +kernel
theorem dL_law_485 : decode cL_law 485 = .ok (.iload_n 3, 1) := by decide +kernel
theorem dL_law_486 : decode cL_law 486 = .ok (.iconst 3, 1) := by decide +kernel
theorem dL_law_487 : decode cL_law 487 = .ok (.iadd, 1) := by decide +kernel
theorem dL_law_488 : decode cL_law 488 = .ok (.iaload, 1) := by decide +kernel
theorem dL_law_489 : decode cL_law 489 = .ok (.invokevirtual 61, 3) := by decide +kernel
theorem dL_law_492 : decode cL_law 492 = .ok (.if_icmp .eq 606, 3) := by decide +kernel
theorem dL_law_495 : decode cL_law 495 = .ok (.iconst 0, 1) := by decide +kernel
theorem dL_law_496 : decode cL_law 496 = .ok (.ireturn, 1) := by decide +kernel
theorem dL_law_497 : decode cL_law 497 = .ok (.aload_n 1, 1) := by decide +kernel
theorem dL_law_498 : decode cL_law 498 = .ok (.aload_n 0, 1) := by decide +kernel
theorem dL_law_499 : decode cL_law 499 = .ok (.iload_n 3, 1) := by decide +kernel
theorem dL_law_500 : decode cL_law 500 = .ok (.iconst 1, 1) := by decide +kernel
theorem dL_law_501 : decode cL_law 501 = .ok (.iadd, 1) := by decide +kernel
theorem dL_law_502 : decode cL_law 502 = .ok (.iaload, 1) := by decide +kernel
theorem dL_law_503 : decode cL_law 503 = .ok (.aload_n 0, 1) := by decide +kernel
theorem dL_law_504 : decode cL_law 504 = .ok (.iload_n 3, 1) := by decide +kernel
theorem dL_law_505 : decode cL_law 505 = .ok (.iconst 2, 1) := by decide +kernel
theorem dL_law_506 : decode cL_law 506 = .ok (.iadd, 1) := by decide +kernel
theorem dL_law_507 : decode cL_law 507 = .ok (.iaload, 1) := by decide +kernel
theorem dL_law_508 : decode cL_law 508 = .ok (.aload_n 0, 1) := by decide +kernel
theorem dL_law_509 : decode cL_law 509 = .ok (.iload_n 3, 1) := by decide +kernel
theorem dL_law_510 : decode cL_law 510 = .ok (.iconst 3, 1) := by decide +kernel
theorem dL_law_511 : decode cL_law 511 = .ok (.iadd, 1) := by decide +kernel
theorem dL_law_512 : decode cL_law 512 = .ok (.iaload, 1) := by decide +kernel
theorem dL_law_513 : decode cL_law 513 = .ok (.invokevirtual 62, 3) := by decide +kernel
theorem dL_law_516 : decode cL_law 516 = .ok (.aload_n 2, 1) := by decide +kernel
theorem dL_law_517 : decode cL_law 517 = .ok (.aload_n 0, 1) := by decide +kernel
theorem dL_law_518 : decode cL_law 518 = .ok (.iload_n 3, 1) := by decide +kernel
theorem dL_law_519 : decode cL_law 519 = .ok (.iconst 1, 1) := by decide +kernel
theorem dL_law_520 : decode cL_law 520 = .ok (.iadd, 1) := by decide +kernel
theorem dL_law_521 : decode cL_law 521 = .ok (.iaload, 1) := by decide +kernel
theorem dL_law_522 : decode cL_law 522 = .ok (.aload_n 0, 1) := by decide +kernel
theorem dL_law_523 : decode cL_law 523 = .ok (.iload_n 3, 1) := by decide +kernel
theorem dL_law_524 : decode cL_law 524 = .ok (.iconst 2, 1) := by decide +kernel
theorem dL_law_525 : decode cL_law 525 = .ok (.iadd, 1) := by decide +kernel
theorem dL_law_526 : decode cL_law 526 = .ok (.iaload, 1) := by decide +kernel
theorem dL_law_527 : decode cL_law 527 = .ok (.aload_n 0, 1) := by decide +kernel
theorem dL_law_528 : decode cL_law 528 = .ok (.iload_n 3, 1) := by decide +kernel
theorem dL_law_529 : decode cL_law 529 = .ok (.iconst 3, 1) := by decide +kernel
theorem dL_law_530 : decode cL_law 530 = .ok (.iadd, 1) := by decide +kernel
theorem dL_law_531 : decode cL_law 531 = .ok (.iaload, 1) := by decide +kernel
theorem dL_law_532 : decode cL_law 532 = .ok (.invokevirtual 65, 3) := by decide +kernel
theorem dL_law_535 : decode cL_law 535 = .ok (.if_icmp .eq 563, 3) := by decide +kernel
theorem dL_law_538 : decode cL_law 538 = .ok (.iconst 0, 1) := by decide +kernel
theorem dL_law_539 : decode cL_law 539 = .ok (.ireturn, 1) := by decide +kernel
theorem dL_law_540 : decode cL_law 540 = .ok (.aload_n 1, 1) := by decide +kernel
theorem dL_law_541 : decode cL_law 541 = .ok (.aload_n 0, 1) := by decide +kernel
theorem dL_law_542 : decode cL_law 542 = .ok (.iload_n 3, 1) := by decide +kernel
theorem dL_law_543 : decode cL_law 543 = .ok (.iconst 1, 1) := by decide +kernel
theorem dL_law_544 : decode cL_law 544 = .ok (.iadd, 1) := by decide +kernel
theorem dL_law_545 : decode cL_law 545 = .ok (.iaload, 1) := by decide +kernel
theorem dL_law_546 : decode cL_law 546 = .ok (.aload_n 0, 1) := by decide +kernel
theorem dL_law_547 : decode cL_law 547 = .ok (.iload_n 3, 1) := by decide +kernel
theorem dL_law_548 : decode cL_law 548 = .ok (.iconst 2, 1) := by decide +kernel
theorem dL_law_549 : decode cL_law 549 = .ok (.iadd, 1) := by decide +kernel
theorem dL_law_550 : decode cL_law 550 = .ok (.iaload, 1) := by decide +kernel
theorem dL_law_551 : decode cL_law 551 = .ok (.invokevirtual 66, 3) := by decide +kernel
theorem dL_law_554 : decode cL_law 554 = .ok (.aload_n 2, 1) := by decide +kernel
theorem dL_law_555 : decode cL_law 555 = .ok (.aload_n 0, 1) := by decide +kernel
theorem dL_law_556 : decode cL_law 556 = .ok (.iload_n 3, 1) := by decide +kernel
theorem dL_law_557 : decode cL_law 557 = .ok (.iconst 1, 1) := by decide +kernel
theorem dL_law_558 : decode cL_law 558 = .ok (.iadd, 1) := by decide +kernel
theorem dL_law_559 : decode cL_law 559 = .ok (.iaload, 1) := by decide +kernel
theorem dL_law_560 : decode cL_law 560 = .ok (.aload_n 0, 1) := by decide +kernel
theorem dL_law_561 : decode cL_law 561 = .ok (.iload_n 3, 1) := by decide +kernel
theorem dL_law_562 : decode cL_law 562 = .ok (.iconst 2, 1) := by decide +kernel
theorem dL_law_563 : decode cL_law 563 = .ok (.iadd, 1) := by decide +kernel
theorem dL_law_564 : decode cL_law 564 = .ok (.iaload, 1) := by decide +kernel
theorem dL_law_565 : decode cL_law 565 = .ok (.invokevirtual 69, 3) := by decide +kernel
theorem dL_law_568 : decode cL_law 568 = .ok (.if_icmp .eq 530, 3) := by decide +kernel
theorem dL_law_571 : decode cL_law 571 = .ok (.iconst 0, 1) := by decide +kernel
theorem dL_law_572 : decode cL_law 572 = .ok (.ireturn, 1) := by decide +kernel
theorem dL_law_573 : decode cL_law 573 = .ok (.aload_n 1, 1) := by decide +kernel
theorem dL_law_574 : decode cL_law 574 = .ok (.aload_n 0, 1) := by decide +kernel
theorem dL_law_575 : decode cL_law 575 = .ok (.iload_n 3, 1) := by decide +kernel
theorem dL_law_576 : decode cL_law 576 = .ok (.iconst 1, 1) := by decide +kernel
theorem dL_law_577 : decode cL_law 577 = .ok (.iadd, 1) := by decide +kernel
theorem dL_law_578 : decode cL_law 578 = .ok (.iaload, 1) := by decide +kernel
theorem dL_law_579 : decode cL_law 579 = .ok (.invokevirtual 70, 3) := by decide +kernel
theorem dL_law_582 : decode cL_law 582 = .ok (.aload_n 2, 1) := by decide +kernel
theorem dL_law_583 : decode cL_law 583 = .ok (.aload_n 0, 1) := by decide +kernel
theorem dL_law_584 : decode cL_law 584 = .ok (.iload_n 3, 1) := by decide +kernel
theorem dL_law_585 : decode cL_law 585 = .ok (.iconst 1, 1) := by decide +kernel
theorem dL_law_586 : decode cL_law 586 = .ok (.iadd, 1) := by decide +kernel
theorem dL_law_587 : decode cL_law 587 = .ok (.iaload, 1) := by decide +kernel
theorem dL_law_588 : decode cL_law 588 = .ok (.invokevirtual 73, 3) := by decide +kernel
theorem dL_law_591 : decode cL_law 591 = .ok (.if_icmp .eq 507, 3) := by decide +kernel
theorem dL_law_594 : decode cL_law 594 = .ok (.iconst 0, 1) := by decide +kernel
theorem dL_law_595 : decode cL_law 595 = .ok (.ireturn, 1) := by decide +kernel
theorem dL_law_596 : decode cL_law 596 = .ok (.aload_n 1, 1) := by decide +kernel
theorem dL_law_597 : decode cL_law 597 = .ok (.aload_n 0, 1) := by decide +kernel
theorem dL_law_598 : decode cL_law 598 = .ok (.iload_n 3, 1) := by decide +kernel
theorem dL_law_599 : decode cL_law 599 = .ok (.iconst 1, 1) := by decide +kernel
theorem dL_law_600 : decode cL_law 600 = .ok (.iadd, 1) := by decide +kernel
theorem dL_law_601 : decode cL_law 601 = .ok (.iaload, 1) := by decide +kernel
theorem dL_law_602 : decode cL_law 602 = .ok (.invokevirtual 74, 3) := by decide +kernel
theorem dL_law_605 : decode cL_law 605 = .ok (.aload_n 2, 1) := by decide +kernel
theorem dL_law_606 : decode cL_law 606 = .ok (.aload_n 0, 1) := by decide +kernel
theorem dL_law_607 : decode cL_law 607 = .ok (.iload_n 3, 1) := by decide +kernel
theorem dL_law_608 : decode cL_law 608 = .ok (.iconst 1, 1) := by decide +kernel
theorem dL_law_609 : decode cL_law 609 = .ok (.iadd, 1) := by decide +kernel
theorem dL_law_610 : decode cL_law 610 = .ok (.iaload, 1) := by decide +kernel
theorem dL_law_611 : decode cL_law 611 = .ok (.invokevirtual 77, 3) := by decide +kernel
theorem dL_law_614 : decode cL_law 614 = .ok (.if_icmp .eq 484, 3) := by decide +kernel
theorem dL_law_617 : decode cL_law 617 = .ok (.iconst 0, 1) := by decide +kernel
theorem dL_law_618 : decode cL_law 618 = .ok (.ireturn, 1) := by decide +kernel
theorem dL_law_619 : decode cL_law 619 = .ok (.aload_n 1, 1) := by decide +kernel
theorem dL_law_620 : decode cL_law 620 = .ok (.aload_n 0, 1) := by decide +kernel
theorem dL_law_621 : decode cL_law 621 = .ok (.iload_n 3, 1) := by decide +kernel
theorem dL_law_622 : decode cL_law 622 = .ok (.iconst 1, 1) := by decide +kernel
theorem dL_law_623 : decode cL_law 623 = .ok (.iadd, 1) := by decide +kernel
theorem dL_law_624 : decode cL_law 624 = .ok (.iaload, 1) := by decide +kernel
theorem dL_law_625 : decode cL_law 625 = .ok (.invokevirtual 78, 3) := by decide +kernel
theorem dL_law_628 : decode cL_law 628 = .ok (.aload_n 2, 1) := by decide +kernel
theorem dL_law_629 : decode cL_law 629 = .ok (.aload_n 0, 1) := by decide +kernel
theorem dL_law_630 : decode cL_law 630 = .ok (.iload_n 3, 1) := by decide +kernel
theorem dL_law_631 : decode cL_law 631 = .ok (.iconst 1, 1) := by decide +kernel
theorem dL_law_632 : decode cL_law 632 = .ok (.iadd, 1) := by decide +kernel
theorem dL_law_633 : decode cL_law 633 = .ok (.iaload, 1) := by decide +kernel
theorem dL_law_634 : decode cL_law 634 = .ok (.invokevirtual 81, 3) := by decide +kernel
theorem dL_law_637 : decode cL_law 637 = .ok (.if_icmp .eq 461, 3) := by decide +kernel
theorem dL_law_640 : decode cL_law 640 = .ok (.iconst 0, 1) := by decide +kernel
theorem dL_law_641 : decode cL_law 641 = .ok (.ireturn, 1) := by decide +kernel
theorem dL_law_642 : decode cL_law 642 = .ok (.aload_n 1, 1) := by decide +kernel
theorem dL_law_643 : decode cL_law 643 = .ok (.aload_n 0, 1) := by decide +kernel
theorem dL_law_644 : decode cL_law 644 = .ok (.iload_n 3, 1) := by decide +kernel
theorem dL_law_645 : decode cL_law 645 = .ok (.iconst 1, 1) := by decide +kernel
theorem dL_law_646 : decode cL_law 646 = .ok (.iadd, 1) := by decide +kernel
theorem dL_law_647 : decode cL_law 647 = .ok (.iaload, 1) := by decide +kernel
theorem dL_law_648 : decode cL_law 648 = .ok (.invokevirtual 82, 3) := by decide +kernel
theorem dL_law_651 : decode cL_law 651 = .ok (.aload_n 2, 1) := by decide +kernel
theorem dL_law_652 : decode cL_law 652 = .ok (.aload_n 0, 1) := by decide +kernel
theorem dL_law_653 : decode cL_law 653 = .ok (.iload_n 3, 1) := by decide +kernel
theorem dL_law_654 : decode cL_law 654 = .ok (.iconst 1, 1) := by decide +kernel
theorem dL_law_655 : decode cL_law 655 = .ok (.iadd, 1) := by decide +kernel
theorem dL_law_656 : decode cL_law 656 = .ok (.iaload, 1) := by decide +kernel
theorem dL_law_657 : decode cL_law 657 = .ok (.invokevirtual 85, 3) := by decide +kernel
theorem dL_law_660 : decode cL_law 660 = .ok (.if_icmp .eq 438, 3) := by decide +kernel
theorem dL_law_663 : decode cL_law 663 = .ok (.iconst 0, 1) := by decide +kernel
theorem dL_law_664 : decode cL_law 664 = .ok (.ireturn, 1) := by decide +kernel
theorem dL_law_665 : decode cL_law 665 = .ok (.aload_n 1, 1) := by decide +kernel
theorem dL_law_666 : decode cL_law 666 = .ok (.invokevirtual 86, 3) := by decide +kernel
theorem dL_law_669 : decode cL_law 669 = .ok (.aload_n 2, 1) := by decide +kernel
theorem dL_law_670 : decode cL_law 670 = .ok (.invokevirtual 89, 3) := by decide +kernel
theorem dL_law_673 : decode cL_law 673 = .ok (.if_icmp .eq 425, 3) := by decide +kernel
theorem dL_law_676 : decode cL_law 676 = .ok (.iconst 0, 1) := by decide +kernel
theorem dL_law_677 : decode cL_law 677 = .ok (.ireturn, 1) := by decide +kernel
theorem dL_law_678 : decode cL_law 678 = .ok (.aload_n 1, 1) := by decide +kernel
theorem dL_law_679 : decode cL_law 679 = .ok (.aload_n 0, 1) := by decide +kernel
theorem dL_law_680 : decode cL_law 680 = .ok (.iload_n 3, 1) := by decide +kernel
theorem dL_law_681 : decode cL_law 681 = .ok (.iconst 1, 1) := by decide +kernel
theorem dL_law_682 : decode cL_law 682 = .ok (.iadd, 1) := by decide +kernel
theorem dL_law_683 : decode cL_law 683 = .ok (.iaload, 1) := by decide +kernel
theorem dL_law_684 : decode cL_law 684 = .ok (.aload_n 0, 1) := by decide +kernel
theorem dL_law_685 : decode cL_law 685 = .ok (.iload_n 3, 1) := by decide +kernel
theorem dL_law_686 : decode cL_law 686 = .ok (.iconst 2, 1) := by decide +kernel
theorem dL_law_687 : decode cL_law 687 = .ok (.iadd, 1) := by decide +kernel
theorem dL_law_688 : decode cL_law 688 = .ok (.iaload, 1) := by decide +kernel
theorem dL_law_689 : decode cL_law 689 = .ok (.invokevirtual 90, 3) := by decide +kernel
theorem dL_law_692 : decode cL_law 692 = .ok (.aload_n 2, 1) := by decide +kernel
theorem dL_law_693 : decode cL_law 693 = .ok (.aload_n 0, 1) := by decide +kernel
theorem dL_law_694 : decode cL_law 694 = .ok (.iload_n 3, 1) := by decide +kernel
theorem dL_law_695 : decode cL_law 695 = .ok (.iconst 1, 1) := by decide +kernel
theorem dL_law_696 : decode cL_law 696 = .ok (.iadd, 1) := by decide +kernel
theorem dL_law_697 : decode cL_law 697 = .ok (.iaload, 1) := by decide +kernel
theorem dL_law_698 : decode cL_law 698 = .ok (.aload_n 0, 1) := by decide +kernel
theorem dL_law_699 : decode cL_law 699 = .ok (.iload_n 3, 1) := by decide +kernel
theorem dL_law_700 : decode cL_law 700 = .ok (.iconst 2, 1) := by decide +kernel
theorem dL_law_701 : decode cL_law 701 = .ok (.iadd, 1) := by decide +kernel
theorem dL_law_702 : decode cL_law 702 = .ok (.iaload, 1) := by decide +kernel
theorem dL_law_703 : decode cL_law 703 = .ok (.invokevirtual 93, 3) := by decide +kernel
theorem dL_law_706 : decode cL_law 706 = .ok (.if_icmp .eq 392, 3) := by decide +kernel
theorem dL_law_709 : decode cL_law 709 = .ok (.iconst 0, 1) := by decide +kernel
theorem dL_law_710 : decode cL_law 710 = .ok (.ireturn, 1) := by decide +kernel
theorem dL_law_711 : decode cL_law 711 = .ok (.aload_n 1, 1) := by decide +kernel
theorem dL_law_712 : decode cL_law 712 = .ok (.aload_n 0, 1) := by decide +kernel
theorem dL_law_713 : decode cL_law 713 = .ok (.iload_n 3, 1) := by decide +kernel
theorem dL_law_714 : decode cL_law 714 = .ok (.iconst 1, 1) := by decide +kernel
theorem dL_law_715 : decode cL_law 715 = .ok (.iadd, 1) := by decide +kernel
theorem dL_law_716 : decode cL_law 716 = .ok (.iaload, 1) := by decide +kernel
theorem dL_law_717 : decode cL_law 717 = .ok (.aload_n 0, 1) := by decide +kernel
theorem dL_law_718 : decode cL_law 718 = .ok (.iload_n 3, 1) := by decide +kernel
theorem dL_law_719 : decode cL_law 719 = .ok (.iconst 2, 1) := by decide +kernel
theorem dL_law_720 : decode cL_law 720 = .ok (.iadd, 1) := by decide +kernel
theorem dL_law_721 : decode cL_law 721 = .ok (.iaload, 1) := by decide +kernel
theorem dL_law_722 : decode cL_law 722 = .ok (.aload_n 0, 1) := by decide +kernel
theorem dL_law_723 : decode cL_law 723 = .ok (.iload_n 3, 1) := by decide +kernel
theorem dL_law_724 : decode cL_law 724 = .ok (.iconst 3, 1) := by decide +kernel
theorem dL_law_725 : decode cL_law 725 = .ok (.iadd, 1) := by decide +kernel
theorem dL_law_726 : decode cL_law 726 = .ok (.iaload, 1) := by decide +kernel
theorem dL_law_727 : decode cL_law 727 = .ok (.invokevirtual 94, 3) := by decide +kernel
theorem dL_law_730 : decode cL_law 730 = .ok (.aload_n 2, 1) := by decide +kernel
theorem dL_law_731 : decode cL_law 731 = .ok (.aload_n 0, 1) := by decide +kernel
theorem dL_law_732 : decode cL_law 732 = .ok (.iload_n 3, 1) := by decide +kernel
theorem dL_law_733 : decode cL_law 733 = .ok (.iconst 1, 1) := by decide +kernel
theorem dL_law_734 : decode cL_law 734 = .ok (.iadd, 1) := by decide +kernel
theorem dL_law_735 : decode cL_law 735 = .ok (.iaload, 1) := by decide +kernel
theorem dL_law_736 : decode cL_law 736 = .ok (.aload_n 0, 1) := by decide +kernel
theorem dL_law_737 : decode cL_law 737 = .ok (.iload_n 3, 1) := by decide +kernel
theorem dL_law_738 : decode cL_law 738 = .ok (.iconst 2, 1) := by decide +kernel
theorem dL_law_739 : decode cL_law 739 = .ok (.iadd, 1) := by decide +kernel
theorem dL_law_740 : decode cL_law 740 = .ok (.iaload, 1) := by decide +kernel
theorem dL_law_741 : decode cL_law 741 = .ok (.aload_n 0, 1) := by decide +kernel
theorem dL_law_742 : decode cL_law 742 = .ok (.iload_n 3, 1) := by decide +kernel
theorem dL_law_743 : decode cL_law 743 = .ok (.iconst 3, 1) := by decide +kernel
theorem dL_law_744 : decode cL_law 744 = .ok (.iadd, 1) := by decide +kernel
theorem dL_law_745 : decode cL_law 745 = .ok (.iaload, 1) := by decide +kernel
theorem dL_law_746 : decode cL_law 746 = .ok (.invokevirtual 97, 3) := by decide +kernel
theorem dL_law_749 : decode cL_law 749 = .ok (.if_icmp .eq 349, 3) := by decide +kernel
theorem dL_law_752 : decode cL_law 752 = .ok (.iconst 0, 1) := by decide +kernel
theorem dL_law_753 : decode cL_law 753 = .ok (.ireturn, 1) := by decide +kernel
theorem dL_law_754 : decode cL_law 754 = .ok (.aload_n 1, 1) := by decide +kernel
theorem dL_law_755 : decode cL_law 755 = .ok (.aload_n 0, 1) := by decide +kernel
theorem dL_law_756 : decode cL_law 756 = .ok (.iload_n 3, 1) := by decide +kernel
theorem dL_law_757 : decode cL_law 757 = .ok (.iconst 1, 1) := by decide +kernel
theorem dL_law_758 : decode cL_law 758 = .ok (.iadd, 1) := by decide +kernel
theorem dL_law_759 : decode cL_law 759 = .ok (.iaload, 1) := by decide +kernel
theorem dL_law_760 : decode cL_law 760 = .ok (.invokevirtual 98, 3) := by decide +kernel
theorem dL_law_763 : decode cL_law 763 = .ok (.aload_n 2, 1) := by decide +kernel
theorem dL_law_764 : decode cL_law 764 = .ok (.aload_n 0, 1) := by decide +kernel
theorem dL_law_765 : decode cL_law 765 = .ok (.iload_n 3, 1) := by decide +kernel
theorem dL_law_766 : decode cL_law 766 = .ok (.iconst 1, 1) := by decide +kernel
theorem dL_law_767 : decode cL_law 767 = .ok (.iadd, 1) := by decide +kernel
theorem dL_law_768 : decode cL_law 768 = .ok (.iaload, 1) := by decide +kernel
theorem dL_law_769 : decode cL_law 769 = .ok (.invokevirtual 101, 3) := by decide +kernel
theorem dL_law_772 : decode cL_law 772 = .ok (.if_icmp .eq 326, 3) := by decide +kernel
theorem dL_law_775 : decode cL_law 775 = .ok (.iconst 0, 1) := by decide +kernel
theorem dL_law_776 : decode cL_law 776 = .ok (.ireturn, 1) := by decide +kernel
theorem dL_law_777 : decode cL_law 777 = .ok (.aload_n 1, 1) := by decide +kernel
theorem dL_law_778 : decode cL_law 778 = .ok (.aload_n 0, 1) := by decide +kernel
theorem dL_law_779 : decode cL_law 779 = .ok (.iload_n 3, 1) := by decide +kernel
theorem dL_law_780 : decode cL_law 780 = .ok (.iconst 1, 1) := by decide +kernel
theorem dL_law_781 : decode cL_law 781 = .ok (.iadd, 1) := by decide +kernel
theorem dL_law_782 : decode cL_law 782 = .ok (.iaload, 1) := by decide +kernel
theorem dL_law_783 : decode cL_law 783 = .ok (.aload_n 0, 1) := by decide +kernel
theorem dL_law_784 : decode cL_law 784 = .ok (.iload_n 3, 1) := by decide +kernel
theorem dL_law_785 : decode cL_law 785 = .ok (.iconst 2, 1) := by decide +kernel
theorem dL_law_786 : decode cL_law 786 = .ok (.iadd, 1) := by decide +kernel
theorem dL_law_787 : decode cL_law 787 = .ok (.iaload, 1) := by decide +kernel
theorem dL_law_788 : decode cL_law 788 = .ok (.invokevirtual 102, 3) := by decide +kernel
theorem dL_law_791 : decode cL_law 791 = .ok (.aload_n 2, 1) := by decide +kernel
theorem dL_law_792 : decode cL_law 792 = .ok (.aload_n 0, 1) := by decide +kernel
theorem dL_law_793 : decode cL_law 793 = .ok (.iload_n 3, 1) := by decide +kernel
theorem dL_law_794 : decode cL_law 794 = .ok (.iconst 1, 1) := by decide +kernel
theorem dL_law_795 : decode cL_law 795 = .ok (.iadd, 1) := by decide +kernel
theorem dL_law_796 : decode cL_law 796 = .ok (.iaload, 1) := by decide +kernel
theorem dL_law_797 : decode cL_law 797 = .ok (.aload_n 0, 1) := by decide +kernel
theorem dL_law_798 : decode cL_law 798 = .ok (.iload_n 3, 1) := by decide +kernel
theorem dL_law_799 : decode cL_law 799 = .ok (.iconst 2, 1) := by decide +kernel
theorem dL_law_800 : decode cL_law 800 = .ok (.iadd, 1) := by decide +kernel
theorem dL_law_801 : decode cL_law 801 = .ok (.iaload, 1) := by decide +kernel
theorem dL_law_802 : decode cL_law 802 = .ok (.invokevirtual 105, 3) := by decide +kernel
theorem dL_law_805 : decode cL_law 805 = .ok (.if_icmp .eq 293, 3) := by decide +kernel
theorem dL_law_808 : decode cL_law 808 = .ok (.iconst 0, 1) := by decide +kernel
theorem dL_law_809 : decode cL_law 809 = .ok (.ireturn, 1) := by decide +kernel
theorem dL_law_810 : decode cL_law 810 = .ok (.aload_n 1, 1) := by decide +kernel
theorem dL_law_811 : decode cL_law 811 = .ok (.aload_n 0, 1) := by decide +kernel
theorem dL_law_812 : decode cL_law 812 = .ok (.iload_n 3, 1) := by decide +kernel
theorem dL_law_813 : decode cL_law 813 = .ok (.iconst 1, 1) := by decide +kernel
theorem dL_law_814 : decode cL_law 814 = .ok (.iadd, 1) := by decide +kernel
theorem dL_law_815 : decode cL_law 815 = .ok (.iaload, 1) := by decide +kernel
theorem dL_law_816 : decode cL_law 816 = .ok (.aload_n 0, 1) := by decide +kernel
theorem dL_law_817 : decode cL_law 817 = .ok (.iload_n 3, 1) := by decide +kernel
theorem dL_law_818 : decode cL_law 818 = .ok (.iconst 2, 1) := by decide +kernel
theorem dL_law_819 : decode cL_law 819 = .ok (.iadd, 1) := by decide +kernel
theorem dL_law_820 : decode cL_law 820 = .ok (.iaload, 1) := by decide +kernel
theorem dL_law_821 : decode cL_law 821 = .ok (.aload_n 0, 1) := by decide +kernel
theorem dL_law_822 : decode cL_law 822 = .ok (.iload_n 3, 1) := by decide +kernel
theorem dL_law_823 : decode cL_law 823 = .ok (.iconst 3, 1) := by decide +kernel
theorem dL_law_824 : decode cL_law 824 = .ok (.iadd, 1) := by decide +kernel
theorem dL_law_825 : decode cL_law 825 = .ok (.iaload, 1) := by decide +kernel
theorem dL_law_826 : decode cL_law 826 = .ok (.invokevirtual 106, 3) := by decide +kernel
theorem dL_law_829 : decode cL_law 829 = .ok (.aload_n 2, 1) := by decide +kernel
theorem dL_law_830 : decode cL_law 830 = .ok (.aload_n 0, 1) := by decide +kernel
theorem dL_law_831 : decode cL_law 831 = .ok (.iload_n 3, 1) := by decide +kernel
theorem dL_law_832 : decode cL_law 832 = .ok (.iconst 1, 1) := by decide +kernel
theorem dL_law_833 : decode cL_law 833 = .ok (.iadd, 1) := by decide +kernel
theorem dL_law_834 : decode cL_law 834 = .ok (.iaload, 1) := by decide +kernel
theorem dL_law_835 : decode cL_law 835 = .ok (.aload_n 0, 1) := by decide +kernel
theorem dL_law_836 : decode cL_law 836 = .ok (.iload_n 3, 1) := by decide +kernel
theorem dL_law_837 : decode cL_law 837 = .ok (.iconst 2, 1) := by decide +kernel
theorem dL_law_838 : decode cL_law 838 = .ok (.iadd, 1) := by decide +kernel
theorem dL_law_839 : decode cL_law 839 = .ok (.iaload, 1) := by decide +kernel
theorem dL_law_840 : decode cL_law 840 = .ok (.aload_n 0, 1) := by decide +kernel
theorem dL_law_841 : decode cL_law 841 = .ok (.iload_n 3, 1) := by decide +kernel
theorem dL_law_842 : decode cL_law 842 = .ok (.iconst 3, 1) := by decide +kernel
theorem dL_law_843 : decode cL_law 843 = .ok (.iadd, 1) := by decide +kernel
theorem dL_law_844 : decode cL_law 844 = .ok (.iaload, 1) := by decide +kernel
theorem dL_law_845 : decode cL_law 845 = .ok (.invokevirtual 109, 3) := by decide +kernel
theorem dL_law_848 : decode cL_law 848 = .ok (.if_icmp .eq 250, 3) := by decide +kernel
theorem dL_law_851 : decode cL_law 851 = .ok (.iconst 0, 1) := by decide +kernel
theorem dL_law_852 : decode cL_law 852 = .ok (.ireturn, 1) := by decide +kernel
theorem dL_law_853 : decode cL_law 853 = .ok (.aload_n 1, 1) := by decide +kernel
theorem dL_law_854 : decode cL_law 854 = .ok (.invokevirtual 110, 3) := by decide +kernel
theorem dL_law_857 : decode cL_law 857 = .ok (.aload_n 2, 1) := by decide +kernel
theorem dL_law_858 : decode cL_law 858 = .ok (.invokevirtual 113, 3) := by decide +kernel
theorem dL_law_861 : decode cL_law 861 = .ok (.if_icmp .eq 237, 3) := by decide +kernel
theorem dL_law_864 : decode cL_law 864 = .ok (.iconst 0, 1) := by decide +kernel
theorem dL_law_865 : decode cL_law 865 = .ok (.ireturn, 1) := by decide +kernel
theorem dL_law_866 : decode cL_law 866 = .ok (.aload_n 1, 1) := by decide +kernel
theorem dL_law_867 : decode cL_law 867 = .ok (.aload_n 0, 1) := by decide +kernel
theorem dL_law_868 : decode cL_law 868 = .ok (.iload_n 3, 1) := by decide +kernel
theorem dL_law_869 : decode cL_law 869 = .ok (.iconst 1, 1) := by decide +kernel
theorem dL_law_870 : decode cL_law 870 = .ok (.iadd, 1) := by decide +kernel
theorem dL_law_871 : decode cL_law 871 = .ok (.iaload, 1) := by decide +kernel
theorem dL_law_872 : decode cL_law 872 = .ok (.invokevirtual 114, 3) := by decide +kernel
theorem dL_law_875 : decode cL_law 875 = .ok (.aload_n 2, 1) := by decide +kernel
theorem dL_law_876 : decode cL_law 876 = .ok (.aload_n 0, 1) := by decide +kernel
theorem dL_law_877 : decode cL_law 877 = .ok (.iload_n 3, 1) := by decide +kernel
theorem dL_law_878 : decode cL_law 878 = .ok (.iconst 1, 1) := by decide +kernel
theorem dL_law_879 : decode cL_law 879 = .ok (.iadd, 1) := by decide +kernel
theorem dL_law_880 : decode cL_law 880 = .ok (.iaload, 1) := by decide +kernel
theorem dL_law_881 : decode cL_law 881 = .ok (.invokevirtual 117, 3) := by decide +kernel
theorem dL_law_884 : decode cL_law 884 = .ok (.if_icmp .eq 214, 3) := by decide +kernel
theorem dL_law_887 : decode cL_law 887 = .ok (.iconst 0, 1) := by decide +kernel
theorem dL_law_888 : decode cL_law 888 = .ok (.ireturn, 1) := by decide +kernel
theorem dL_law_889 : decode cL_law 889 = .ok (.aload_n 1, 1) := by decide +kernel
theorem dL_law_890 : decode cL_law 890 = .ok (.aload_n 0, 1) := by decide +kernel
theorem dL_law_891 : decode cL_law 891 = .ok (.iload_n 3, 1) := by decide +kernel
theorem dL_law_892 : decode cL_law 892 = .ok (.iconst 1, 1) := by decide +kernel
theorem dL_law_893 : decode cL_law 893 = .ok (.iadd, 1) := by decide +kernel
theorem dL_law_894 : decode cL_law 894 = .ok (.iaload, 1) := by decide +kernel
theorem dL_law_895 : decode cL_law 895 = .ok (.invokevirtual 118, 3) := by decide +kernel
theorem dL_law_898 : decode cL_law 898 = .ok (.aload_n 2, 1) := by decide +kernel
theorem dL_law_899 : decode cL_law 899 = .ok (.aload_n 0, 1) := by decide +kernel
theorem dL_law_900 : decode cL_law 900 = .ok (.iload_n 3, 1) := by decide +kernel
theorem dL_law_901 : decode cL_law 901 = .ok (.iconst 1, 1) := by decide +kernel
theorem dL_law_902 : decode cL_law 902 = .ok (.iadd, 1) := by decide +kernel
theorem dL_law_903 : decode cL_law 903 = .ok (.iaload, 1) := by decide +kernel
theorem dL_law_904 : decode cL_law 904 = .ok (.invokevirtual 121, 3) := by decide +kernel
theorem dL_law_907 : decode cL_law 907 = .ok (.if_icmp .eq 191, 3) := by decide +kernel
theorem dL_law_910 : decode cL_law 910 = .ok (.iconst 0, 1) := by decide +kernel
theorem dL_law_911 : decode cL_law 911 = .ok (.ireturn, 1) := by decide +kernel
theorem dL_law_912 : decode cL_law 912 = .ok (.aload_n 1, 1) := by decide +kernel
theorem dL_law_913 : decode cL_law 913 = .ok (.invokevirtual 122, 3) := by decide +kernel
theorem dL_law_916 : decode cL_law 916 = .ok (.aload_n 2, 1) := by decide +kernel
theorem dL_law_917 : decode cL_law 917 = .ok (.invokevirtual 125, 3) := by decide +kernel
theorem dL_law_920 : decode cL_law 920 = .ok (.if_icmp .eq 178, 3) := by decide +kernel
theorem dL_law_923 : decode cL_law 923 = .ok (.iconst 0, 1) := by decide +kernel
theorem dL_law_924 : decode cL_law 924 = .ok (.ireturn, 1) := by decide +kernel
theorem dL_law_925 : decode cL_law 925 = .ok (.aload_n 1, 1) := by decide +kernel
theorem dL_law_926 : decode cL_law 926 = .ok (.aload_n 0, 1) := by decide +kernel
theorem dL_law_927 : decode cL_law 927 = .ok (.iload_n 3, 1) := by decide +kernel
theorem dL_law_928 : decode cL_law 928 = .ok (.iconst 1, 1) := by decide +kernel
theorem dL_law_929 : decode cL_law 929 = .ok (.iadd, 1) := by decide +kernel
theorem dL_law_930 : decode cL_law 930 = .ok (.iaload, 1) := by decide +kernel
theorem dL_law_931 : decode cL_law 931 = .ok (.aload_n 0, 1) := by decide +kernel
theorem dL_law_932 : decode cL_law 932 = .ok (.iload_n 3, 1) := by decide +kernel
theorem dL_law_933 : decode cL_law 933 = .ok (.iconst 2, 1) := by decide +kernel
theorem dL_law_934 : decode cL_law 934 = .ok (.iadd, 1) := by decide +kernel
theorem dL_law_935 : decode cL_law 935 = .ok (.iaload, 1) := by decide +kernel
theorem dL_law_936 : decode cL_law 936 = .ok (.aload_n 0, 1) := by decide +kernel
theorem dL_law_937 : decode cL_law 937 = .ok (.iload_n 3, 1) := by decide +kernel
theorem dL_law_938 : decode cL_law 938 = .ok (.iconst 3, 1) := by decide +kernel
theorem dL_law_939 : decode cL_law 939 = .ok (.iadd, 1) := by decide +kernel
theorem dL_law_940 : decode cL_law 940 = .ok (.iaload, 1) := by decide +kernel
theorem dL_law_941 : decode cL_law 941 = .ok (.invokevirtual 126, 3) := by decide +kernel
theorem dL_law_944 : decode cL_law 944 = .ok (.aload_n 2, 1) := by decide +kernel
theorem dL_law_945 : decode cL_law 945 = .ok (.aload_n 0, 1) := by decide +kernel
theorem dL_law_946 : decode cL_law 946 = .ok (.iload_n 3, 1) := by decide +kernel
theorem dL_law_947 : decode cL_law 947 = .ok (.iconst 1, 1) := by decide +kernel
theorem dL_law_948 : decode cL_law 948 = .ok (.iadd, 1) := by decide +kernel
theorem dL_law_949 : decode cL_law 949 = .ok (.iaload, 1) := by decide +kernel
theorem dL_law_950 : decode cL_law 950 = .ok (.aload_n 0, 1) := by decide +kernel
theorem dL_law_951 : decode cL_law 951 = .ok (.iload_n 3, 1) := by decide +kernel
theorem dL_law_952 : decode cL_law 952 = .ok (.iconst 2, 1) := by decide +kernel
theorem dL_law_953 : decode cL_law 953 = .ok (.iadd, 1) := by decide +kernel
theorem dL_law_954 : decode cL_law 954 = .ok (.iaload, 1) := by decide +kernel
theorem dL_law_955 : decode cL_law 955 = .ok (.aload_n 0, 1) := by decide +kernel
theorem dL_law_956 : decode cL_law 956 = .ok (.iload_n 3, 1) := by decide +kernel
theorem dL_law_957 : decode cL_law 957 = .ok (.iconst 3, 1) := by decide +kernel
theorem dL_law_958 : decode cL_law 958 = .ok (.iadd, 1) := by decide +kernel
theorem dL_law_959 : decode cL_law 959 = .ok (.iaload, 1) := by decide +kernel
theorem dL_law_960 : decode cL_law 960 = .ok (.invokevirtual 129, 3) := by decide +kernel
theorem dL_law_963 : decode cL_law 963 = .ok (.if_icmp .eq 135, 3) := by decide +kernel
theorem dL_law_966 : decode cL_law 966 = .ok (.iconst 0, 1) := by decide +kernel
theorem dL_law_967 : decode cL_law 967 = .ok (.ireturn, 1) := by decide +kernel
theorem dL_law_968 : decode cL_law 968 = .ok (.aload_n 1, 1) := by decide +kernel
theorem dL_law_969 : decode cL_law 969 = .ok (.aload_n 0, 1) := by decide +kernel
theorem dL_law_970 : decode cL_law 970 = .ok (.iload_n 3, 1) := by decide +kernel
theorem dL_law_971 : decode cL_law 971 = .ok (.iconst 1, 1) := by decide +kernel
theorem dL_law_972 : decode cL_law 972 = .ok (.iadd, 1) := by decide +kernel
theorem dL_law_973 : decode cL_law 973 = .ok (.iaload, 1) := by decide +kernel
theorem dL_law_974 : decode cL_law 974 = .ok (.invokevirtual 130, 3) := by decide +kernel
theorem dL_law_977 : decode cL_law 977 = .ok (.aload_n 2, 1) := by decide +kernel
theorem dL_law_978 : decode cL_law 978 = .ok (.aload_n 0, 1) := by decide +kernel
theorem dL_law_979 : decode cL_law 979 = .ok (.iload_n 3, 1) := by decide +kernel
theorem dL_law_980 : decode cL_law 980 = .ok (.iconst 1, 1) := by decide +kernel
theorem dL_law_981 : decode cL_law 981 = .ok (.iadd, 1) := by decide +kernel
theorem dL_law_982 : decode cL_law 982 = .ok (.iaload, 1) := by decide +kernel
theorem dL_law_983 : decode cL_law 983 = .ok (.invokevirtual 134, 3) := by decide +kernel
theorem dL_law_986 : decode cL_law 986 = .ok (.lcmp, 1) := by decide +kernel
theorem dL_law_987 : decode cL_law 987 = .ok (.ifCond .eq 111, 3) := by decide +kernel
theorem dL_law_990 : decode cL_law 990 = .ok (.iconst 0, 1) := by decide +kernel
theorem dL_law_991 : decode cL_law 991 = .ok (.ireturn, 1) := by decide +kernel
theorem dL_law_992 : decode cL_law 992 = .ok (.aload_n 1, 1) := by decide +kernel
theorem dL_law_993 : decode cL_law 993 = .ok (.aload_n 0, 1) := by decide +kernel
theorem dL_law_994 : decode cL_law 994 = .ok (.iload_n 3, 1) := by decide +kernel
theorem dL_law_995 : decode cL_law 995 = .ok (.iconst 1, 1) := by decide +kernel
theorem dL_law_996 : decode cL_law 996 = .ok (.iadd, 1) := by decide +kernel
theorem dL_law_997 : decode cL_law 997 = .ok (.iaload, 1) := by decide +kernel
theorem dL_law_998 : decode cL_law 998 = .ok (.invokevirtual 135, 3) := by decide +kernel
theorem dL_law_1001 : decode cL_law 1001 = .ok (.aload_n 2, 1) := by decide +kernel
theorem dL_law_1002 : decode cL_law 1002 = .ok (.aload_n 0, 1) := by decide +kernel
theorem dL_law_1003 : decode cL_law 1003 = .ok (.iload_n 3, 1) := by decide +kernel
theorem dL_law_1004 : decode cL_law 1004 = .ok (.iconst 1, 1) := by decide +kernel
theorem dL_law_1005 : decode cL_law 1005 = .ok (.iadd, 1) := by decide +kernel
theorem dL_law_1006 : decode cL_law 1006 = .ok (.iaload, 1) := by decide +kernel
theorem dL_law_1007 : decode cL_law 1007 = .ok (.invokevirtual 138, 3) := by decide +kernel
theorem dL_law_1010 : decode cL_law 1010 = .ok (.if_icmp .eq 88, 3) := by decide +kernel
theorem dL_law_1013 : decode cL_law 1013 = .ok (.iconst 0, 1) := by decide +kernel
theorem dL_law_1014 : decode cL_law 1014 = .ok (.ireturn, 1) := by decide +kernel
theorem dL_law_1015 : decode cL_law 1015 = .ok (.aload_n 1, 1) := by decide +kernel
theorem dL_law_1016 : decode cL_law 1016 = .ok (.aload_n 0, 1) := by decide +kernel
theorem dL_law_1017 : decode cL_law 1017 = .ok (.iload_n 3, 1) := by decide +kernel
theorem dL_law_1018 : decode cL_law 1018 = .ok (.iconst 1, 1) := by decide +kernel
theorem dL_law_1019 : decode cL_law 1019 = .ok (.iadd, 1) := by decide +kernel
theorem dL_law_1020 : decode cL_law 1020 = .ok (.iaload, 1) := by decide +kernel
theorem dL_law_1021 : decode cL_law 1021 = .ok (.invokevirtual 139, 3) := by decide +kernel
theorem dL_law_1024 : decode cL_law 1024 = .ok (.aload_n 2, 1) := by decide +kernel
theorem dL_law_1025 : decode cL_law 1025 = .ok (.aload_n 0, 1) := by decide +kernel
theorem dL_law_1026 : decode cL_law 1026 = .ok (.iload_n 3, 1) := by decide +kernel
theorem dL_law_1027 : decode cL_law 1027 = .ok (.iconst 1, 1) := by decide +kernel
theorem dL_law_1028 : decode cL_law 1028 = .ok (.iadd, 1) := by decide +kernel
theorem dL_law_1029 : decode cL_law 1029 = .ok (.iaload, 1) := by decide +kernel
theorem dL_law_1030 : decode cL_law 1030 = .ok (.invokevirtual 142, 3) := by decide +kernel
theorem dL_law_1033 : decode cL_law 1033 = .ok (.if_icmp .eq 65, 3) := by decide +kernel
theorem dL_law_1036 : decode cL_law 1036 = .ok (.iconst 0, 1) := by decide +kernel
theorem dL_law_1037 : decode cL_law 1037 = .ok (.ireturn, 1) := by decide +kernel
theorem dL_law_1038 : decode cL_law 1038 = .ok (.aload_n 1, 1) := by decide +kernel
theorem dL_law_1039 : decode cL_law 1039 = .ok (.aload_n 0, 1) := by decide +kernel
theorem dL_law_1040 : decode cL_law 1040 = .ok (.iload_n 3, 1) := by decide +kernel
theorem dL_law_1041 : decode cL_law 1041 = .ok (.iconst 1, 1) := by decide +kernel
theorem dL_law_1042 : decode cL_law 1042 = .ok (.iadd, 1) := by decide +kernel
theorem dL_law_1043 : decode cL_law 1043 = .ok (.iaload, 1) := by decide +kernel
theorem dL_law_1044 : decode cL_law 1044 = .ok (.invokevirtual 143, 3) := by decide +kernel
theorem dL_law_1047 : decode cL_law 1047 = .ok (.aload_n 2, 1) := by decide +kernel
theorem dL_law_1048 : decode cL_law 1048 = .ok (.aload_n 0, 1) := by decide +kernel
theorem dL_law_1049 : decode cL_law 1049 = .ok (.iload_n 3, 1) := by decide +kernel
theorem dL_law_1050 : decode cL_law 1050 = .ok (.iconst 1, 1) := by decide +kernel
theorem dL_law_1051 : decode cL_law 1051 = .ok (.iadd, 1) := by decide +kernel
theorem dL_law_1052 : decode cL_law 1052 = .ok (.iaload, 1) := by decide +kernel
theorem dL_law_1053 : decode cL_law 1053 = .ok (.invokevirtual 146, 3) := by decide +kernel
theorem dL_law_1056 : decode cL_law 1056 = .ok (.if_icmp .eq 42, 3) := by decide +kernel
theorem dL_law_1059 : decode cL_law 1059 = .ok (.iconst 0, 1) := by decide +kernel
theorem dL_law_1060 : decode cL_law 1060 = .ok (.ireturn, 1) := by decide +kernel
theorem dL_law_1061 : decode cL_law 1061 = .ok (.aload_n 1, 1) := by decide +kernel
theorem dL_law_1062 : decode cL_law 1062 = .ok (.aload_n 0, 1) := by decide +kernel
theorem dL_law_1063 : decode cL_law 1063 = .ok (.iload_n 3, 1) := by decide +kernel
theorem dL_law_1064 : decode cL_law 1064 = .ok (.iconst 1, 1) := by decide +kernel
theorem dL_law_1065 : decode cL_law 1065 = .ok (.iadd, 1) := by decide +kernel
theorem dL_law_1066 : decode cL_law 1066 = .ok (.iaload, 1) := by decide +kernel
theorem dL_law_1067 : decode cL_law 1067 = .ok (.invokevirtual 147, 3) := by decide +kernel
theorem dL_law_1070 : decode cL_law 1070 = .ok (.aload_n 2, 1) := by decide +kernel
theorem dL_law_1071 : decode cL_law 1071 = .ok (.aload_n 0, 1) := by decide +kernel
theorem dL_law_1072 : decode cL_law 1072 = .ok (.iload_n 3, 1) := by decide +kernel
theorem dL_law_1073 : decode cL_law 1073 = .ok (.iconst 1, 1) := by decide +kernel
theorem dL_law_1074 : decode cL_law 1074 = .ok (.iadd, 1) := by decide +kernel
theorem dL_law_1075 : decode cL_law 1075 = .ok (.iaload, 1) := by decide +kernel
theorem dL_law_1076 : decode cL_law 1076 = .ok (.invokevirtual 150, 3) := by decide +kernel
theorem dL_law_1079 : decode cL_law 1079 = .ok (.if_icmp .eq 19, 3) := by decide +kernel
theorem dL_law_1082 : decode cL_law 1082 = .ok (.iconst 0, 1) := by decide +kernel
theorem dL_law_1083 : decode cL_law 1083 = .ok (.ireturn, 1) := by decide +kernel
theorem dL_law_1084 : decode cL_law 1084 = .ok (.aload_n 1, 1) := by decide +kernel
theorem dL_law_1085 : decode cL_law 1085 = .ok (.invokevirtual 151, 3) := by decide +kernel
theorem dL_law_1088 : decode cL_law 1088 = .ok (.aload_n 2, 1) := by decide +kernel
theorem dL_law_1089 : decode cL_law 1089 = .ok (.invokevirtual 155, 3) := by decide +kernel
theorem dL_law_1092 : decode cL_law 1092 = .ok (.lcmp, 1) := by decide +kernel
theorem dL_law_1093 : decode cL_law 1093 = .ok (.ifCond .eq 5, 3) := by decide +kernel
theorem dL_law_1096 : decode cL_law 1096 = .ok (.iconst 0, 1) := by decide +kernel
theorem dL_law_1097 : decode cL_law 1097 = .ok (.ireturn, 1) := by decide +kernel
theorem dL_law_1098 : decode cL_law 1098 = .ok (.iinc 3 6, 3) := by decide +kernel
theorem dL_law_1101 : decode cL_law 1101 = .ok (.goto (-1083), 3) := by decide +kernel
theorem dL_law_1104 : decode cL_law 1104 = .ok (.iconst 1, 1) := by decide +kernel
theorem dL_law_1105 : decode cL_law 1105 = .ok (.ireturn, 1) := by decide +kernel
end
section
/-! ===== THE SMALL MACHINE: configurations by numbers of cells, and what they say of the JVM's ===== -/
/-! the words that all methods share -/
def tb : List Cond := lw_tbl.filter goodWord
theorem tb_in {w : Cond} (i : Nat) (h : lw_tbl[i]? = some w) (g : goodWord w = true) : w ∈ tb := List.mem_filter.mpr ⟨List.mem_of_getElem? h, g⟩
theorem tb_gd : GoodIn tb tb := fun _ h => ⟨h, good_of_word (List.mem_filter.mp h).2⟩
theorem tb_gc {w : Cond} (h : w ∈ tb) : GoodIn tb (w :: tb) := fun v hv => by
  rcases List.mem_cons.mp hv with rfl | h2
  · exact tb_gd _ h
  · exact tb_gd _ h2
theorem tb_before {a : Array Value} {s : State} (h : ∀ w ∈ lw_tbl, w.before a s = true) : ∀ w ∈ tb, w.before a s = true := fun w hw => h w (List.mem_filter.mp hw).1
/-! values: a reference is a number of a cell; a float stands for a text constant -/
def cv (ad sd : Nat → Nat) : Value → Value
  | .ref a => .ref (ad a)
  | .float u => .ref (sd u.toNat)
  | v => v
theorem cv_cat {ad sd : Nat → Nat} (v : Value) : (cv ad sd v).category = v.category := by cases v <;> rfl
theorem cv_cats {ad sd : Nat → Nat} (l : List Value) : ((l.map (cv ad sd)).map fun v => v.category).sum = (l.map fun v => v.category).sum := by
  rw [List.map_map]
  congr 1
  apply List.map_congr_left
  intro v _
  exact cv_cat v
def vrk (N : Nat) : Value → Prop
  | .ref a => a < N
  | _ => True
theorem cv_agree {ad ad' sd : Nat → Nat} {N : Nat} (h : ∀ i, i < N → ad' i = ad i) {v : Value} (hv : vrk N v) : cv ad' sd v = cv ad sd v := by
  cases v <;> first | rfl | (show Value.ref _ = Value.ref _; rw [h _ hv])
/-! cells -/
abbrev Ob : Type := (Bool × Nat × (Nat → Int32)) ⊕ (Nat × List Value)
abbrev St : Type := Nat → Option Ob
def su (S : St) (i : Nat) (o : Ob) : St := fun j => if j = i then some o else S j
theorem su_eq {S : St} {i : Nat} {o : Ob} : su S i o i = some o := if_pos rfl
theorem su_ne {S : St} {i j : Nat} {o : Ob} (h : j ≠ i) : su S i o j = S j := if_neg h
def co (tI tZ : ClassId) (ad sd : Nat → Nat) : Ob → va_E
  | .inl x => .inl ((if x.1 = true then tZ else tI), x.2.1, .inl x.2.2)
  | .inr x => .inr (x.1, x.2.map (cv ad sd))
def aw (tI tZ : ClassId) (ad sd : Nat → Nat) (N : Nat) (S : St) : va_W := (List.range N).map fun i => (ad i, match S i with | some o => co tI tZ ad sd o | none => .inr (0, []))
theorem aw_len {tI tZ : ClassId} {ad sd : Nat → Nat} {N : Nat} {S : St} : (aw tI tZ ad sd N S).length = N := by simp [aw]
theorem aw_get {tI tZ : ClassId} {ad sd : Nat → Nat} {N : Nat} {S : St} {i : Nat} (hi : i < N) : (aw tI tZ ad sd N S)[i]? = some (ad i, match S i with | some o => co tI tZ ad sd o | none => .inr (0, [])) := by
  simp [aw, hi]
theorem aw_at {tI tZ : ClassId} {ad sd : Nat → Nat} {N : Nat} {S : St} {i : Nat} {o : Ob} (hi : i < N) (h : S i = some o) : (aw tI tZ ad sd N S)[i]? = some (ad i, co tI tZ ad sd o) := by
  rw [aw_get hi, h]
theorem aw_set {tI tZ : ClassId} {ad sd : Nat → Nat} {N : Nat} {S : St} {i : Nat} {o : Ob} : (aw tI tZ ad sd N S).set i (ad i, co tI tZ ad sd o) = aw tI tZ ad sd N (su S i o) := by
  apply List.ext_getElem?
  intro j
  by_cases hj : j < N
  · rw [aw_get hj, List.getElem?_set]
    by_cases e : i = j
    · subst e
      rw [if_pos rfl, if_pos (by rw [aw_len]; exact hj), su_eq]
    · rw [if_neg e, aw_get hj, su_ne (Ne.symm e)]
  · rw [List.getElem?_eq_none (by rw [List.length_set, aw_len]; omega), List.getElem?_eq_none (by rw [aw_len]; omega)]
def ork (N : Nat) : Ob → Prop
  | .inl _ => True
  | .inr x => ∀ v ∈ x.2, vrk N v
def sok (N : Nat) (S : St) : Prop := ∀ i o, S i = some o → i < N
def srk (N : Nat) (S : St) : Prop := ∀ i o, S i = some o → ork N o
theorem sok_su {N i : Nat} {S : St} {o : Ob} (h : sok N S) (hi : i < N) : sok N (su S i o) := by
  intro j o' hj
  by_cases e : j = i
  · omega
  · rw [su_ne e] at hj
    exact h j o' hj
theorem co_agree {tI tZ : ClassId} {ad ad' sd : Nat → Nat} {N : Nat} (h : ∀ i, i < N → ad' i = ad i) {o : Ob} (ho : ork N o) : co tI tZ ad' sd o = co tI tZ ad sd o := by
  cases o with
  | inl x => rfl
  | inr x =>
    show Sum.inr (x.1, x.2.map (cv ad' sd)) = Sum.inr (x.1, x.2.map (cv ad sd))
    congr 2
    exact List.map_congr_left (fun v hv => cv_agree h (ho v hv))
theorem aw_push {tI tZ : ClassId} {ad ad' sd : Nat → Nat} {N : Nat} {S : St} {o : Ob} (h : ∀ i, i < N → ad' i = ad i) (hr : srk N S) :
    aw tI tZ ad sd N S ++ [(ad' N, co tI tZ ad' sd o)] = aw tI tZ ad' sd (N + 1) (su S N o) := by
  apply List.ext_getElem?
  intro j
  by_cases hj : j < N
  · rw [List.getElem?_append_left (by rw [aw_len]; exact hj), aw_get hj, aw_get (by omega), su_ne (by omega), h j hj]
    cases e : S j with
    | none => rfl
    | some o' =>
      show some (ad j, co tI tZ ad sd o') = some (ad j, co tI tZ ad' sd o')
      rw [co_agree h (hr j o' e)]
  · by_cases e : j = N
    · subst e
      rw [List.getElem?_append_right (by rw [aw_len]; exact Nat.le_refl _), aw_len, aw_get (by omega), su_eq, Nat.sub_self]
      rfl
    · rw [List.getElem?_eq_none (by rw [List.length_append, aw_len]; simp; omega), List.getElem?_eq_none (by rw [aw_len]; omega)]
/-! locals -/
def lok (ls : Array Slot) (nL : Nat) (ad sd : Nat → Nat) (L : List (Option Value)) : Prop := ls.size = nL ∧ lv_wf ls ∧ ∀ (i : Nat) (v : Value), L[i]? = some (some v) → ls[i]? = some (.val (cv ad sd v))
def prs (ad sd : Nat → Nat) (L : List (Option Value)) : List (Nat × Value) := (List.range L.length).filterMap fun j => match L[j]? with | some (some v) => some (j, cv ad sd v) | _ => none
theorem prs_in {ad sd : Nat → Nat} {L : List (Option Value)} {j : Nat} {v : Value} (h : L[j]? = some (some v)) : (j, cv ad sd v) ∈ prs ad sd L :=
  List.mem_filterMap.mpr ⟨j, List.mem_range.mpr (List.getElem?_eq_some_iff.mp h).1, by rw [h]⟩
theorem prs_of {ad sd : Nat → Nat} {L : List (Option Value)} {q : Nat × Value} (h : q ∈ prs ad sd L) : ∃ v, L[q.1]? = some (some v) ∧ q.2 = cv ad sd v := by
  obtain ⟨j, -, hj⟩ := List.mem_filterMap.mp h
  split at hj
  next v e =>
    cases hj
    exact ⟨v, e, rfl⟩
  next => cases hj
theorem lok_prs {ls : Array Slot} {nL : Nat} {ad sd : Nat → Nat} {L : List (Option Value)} (h : lok ls nL ad sd L) : lv_has ls nL (prs ad sd L) := by
  refine ⟨h.1, h.2.1, fun q hq => ?_⟩
  obtain ⟨v, e1, e2⟩ := prs_of hq
  rw [e2]
  exact h.2.2 _ _ e1
def kl (L : List (Option Value)) : Nat → List (Option Value)
  | 0 => L
  | i + 1 => match L[i]? with
    | some (some v) => if v.category = 2 then L.set i none else L
    | _ => L
def l1 (L : List (Option Value)) (i : Nat) (v : Value) : List (Option Value) := (kl L i).set i (some v)
def l2 (L : List (Option Value)) (i : Nat) (v : Value) : List (Option Value) := ((kl L i).set i (some v)).set (i + 1) none
theorem kl_of {L : List (Option Value)} {i j : Nat} {w : Value} (h : (kl L i)[j]? = some (some w)) : L[j]? = some (some w) ∧ ¬ (j + 1 = i ∧ w.category = 2) := by
  cases i with
  | zero => exact ⟨h, fun q => by omega⟩
  | succ i =>
    have hk : kl L (i + 1) = match L[i]? with
      | some (some v) => if v.category = 2 then L.set i none else L
      | _ => L := rfl
    have hn : ∀ o : Option (Option Value), L[i]? = o → (∀ v, o = some (some v) → ¬ v.category = 2) → L[j]? = some (some w) → L[j]? = some (some w) ∧ ¬ (j + 1 = i + 1 ∧ w.category = 2) := by
      intro o ho hv hj
      refine ⟨hj, fun q => ?_⟩
      have e2 : j = i := by omega
      subst e2
      rw [ho] at hj
      exact hv w hj q.2
    cases hc : L[i]? with
    | none =>
      simp only [hk, hc] at h
      exact hn none hc (fun v q => by cases q) h
    | some o =>
      cases o with
      | none =>
        simp only [hk, hc] at h
        exact hn _ hc (fun v q => by cases q) h
      | some v =>
        simp only [hk, hc] at h
        by_cases c2 : v.category = 2
        · rw [if_pos c2, List.getElem?_set] at h
          by_cases e2 : i = j
          · rw [if_pos e2] at h
            split at h <;> cases h
          · rw [if_neg e2] at h
            exact ⟨h, fun q => e2 (by omega)⟩
        · rw [if_neg c2] at h
          exact hn _ hc (fun v' q => by cases q; exact c2) h
theorem lok_s1 {ls : Array Slot} {nL i : Nat} {ad sd : Nat → Nat} {L : List (Option Value)} {v : Value} (h : lv_has ls nL ((i, cv ad sd v) :: (prs ad sd L).filter (fun q => !(q.1 == i) && !(q.1 + 1 == i && q.2.category == 2)))) : lok ls nL ad sd (l1 L i v) := by
  refine ⟨h.1, h.2.1, fun j w hj => ?_⟩
  unfold l1 at hj
  rw [List.getElem?_set] at hj
  by_cases e : i = j
  · rw [if_pos e] at hj
    split at hj
    · cases hj
      subst e
      exact h.2.2 (i, cv ad sd v) List.mem_cons_self
    · cases hj
  · rw [if_neg e] at hj
    obtain ⟨h1, h2⟩ := kl_of hj
    refine h.2.2 (j, cv ad sd w) (List.mem_cons_of_mem _ (List.mem_filter.mpr ⟨prs_in h1, ?_⟩))
    have e' : ¬ j = i := fun q => e q.symm
    simp only [cv_cat]
    simp [e']
    exact Classical.or_iff_not_imp_left.mpr (fun q1 q2 => h2 ⟨Classical.not_not.mp q1, q2⟩)
theorem lok_s2 {ls : Array Slot} {nL i : Nat} {ad sd : Nat → Nat} {L : List (Option Value)} {v : Value} (h : lv_has ls nL ((i, cv ad sd v) :: (prs ad sd L).filter (fun q => !(q.1 == i) && (!(q.1 == i + 1) && !(q.1 + 1 == i && q.2.category == 2))))) : lok ls nL ad sd (l2 L i v) := by
  refine ⟨h.1, h.2.1, fun j w hj => ?_⟩
  unfold l2 at hj
  rw [List.getElem?_set] at hj
  by_cases e1 : i + 1 = j
  · rw [if_pos e1] at hj
    split at hj <;> cases hj
  · rw [if_neg e1, List.getElem?_set] at hj
    by_cases e : i = j
    · rw [if_pos e] at hj
      split at hj
      · cases hj
        subst e
        exact h.2.2 (i, cv ad sd v) List.mem_cons_self
      · cases hj
    · rw [if_neg e] at hj
      obtain ⟨h1, h2⟩ := kl_of hj
      refine h.2.2 (j, cv ad sd w) (List.mem_cons_of_mem _ (List.mem_filter.mpr ⟨prs_in h1, ?_⟩))
      have e' : ¬ j = i := fun q => e q.symm
      have e1' : ¬ j = i + 1 := fun q => e1 q.symm
      simp only [cv_cat]
      simp [e', e1']
      exact Classical.or_iff_not_imp_left.mpr (fun q1 q2 => h2 ⟨Classical.not_not.mp q1, q2⟩)
theorem lok_agree {ls : Array Slot} {nL N : Nat} {ad ad' sd : Nat → Nat} {L : List (Option Value)} (h : lok ls nL ad sd L) (ha : ∀ i, i < N → ad' i = ad i) (hL : ∀ v, some v ∈ L → vrk N v) : lok ls nL ad' sd L :=
  ⟨h.1, h.2.1, fun i v hi => by rw [cv_agree ha (hL v (List.mem_of_getElem? hi))]; exact h.2.2 i v hi⟩
def de : List Value → List (Option Value)
  | [] => []
  | v :: vs => if v.category = 2 then some v :: none :: de vs else some v :: de vs
theorem de_in {ad sd : Nat → Nat} (n : Nat) : ∀ (vs : List Value) (i j : Nat) (v : Value), (de vs ++ List.replicate n none)[j]? = some (some v) → (i + j, cv ad sd v) ∈ lv_args i (vs.map (cv ad sd))
  | [], i, j, v, h => by
    have h1 : (some v : Option Value) ∈ List.replicate n none := List.mem_of_getElem? h
    have := List.eq_of_mem_replicate h1
    cases this
  | w :: vs, i, j, v, h => by
    unfold de at h
    show (i + j, cv ad sd v) ∈ (i, cv ad sd w) :: lv_args (if (cv ad sd w).category = 2 then i + 2 else i + 1) (vs.map (cv ad sd))
    rw [cv_cat]
    by_cases c2 : w.category = 2
    · rw [if_pos c2] at h ⊢
      match j, h with
      | 0, h =>
        cases h
        exact List.mem_cons_self
      | 1, h => cases h
      | j + 2, h =>
        have := de_in (ad := ad) (sd := sd) n vs (i + 2) j v h
        rw [show i + (j + 2) = i + 2 + j by omega]
        exact List.mem_cons_of_mem _ this
    · rw [if_neg c2] at h ⊢
      match j, h with
      | 0, h =>
        cases h
        exact List.mem_cons_self
      | j + 1, h =>
        have := de_in (ad := ad) (sd := sd) n vs (i + 1) j v h
        rw [show i + (j + 1) = i + 1 + j by omega]
        exact List.mem_cons_of_mem _ this
theorem lg_len (ad sd : Nat → Nat) : ∀ vs : List Value, (lg_sl (vs.map (cv ad sd))).length = (de vs).length
  | [] => rfl
  | v :: vs => by
    have := lg_len ad sd vs
    show ((if (cv ad sd v).category = 2 then [Slot.val _, Slot.second] else [Slot.val _]) ++ lg_sl (vs.map (cv ad sd))).length = _
    rw [cv_cat, List.length_append, this, show de (v :: vs) = if v.category = 2 then some v :: none :: de vs else some v :: de vs from rfl]
    by_cases c2 : v.category = 2
    · rw [if_pos c2, if_pos c2]; simp <;> omega
    · rw [if_neg c2, if_neg c2]; simp <;> omega
/-! what stands outside: the text constants, String's switch -/
def XO (sd : Nat → Nat) (A : Nat → Prop) (U : State) (H : Heap) : Prop :=
  (∃ adV : Nat → Nat, vk_S 2 [4, 5] [[114, 111, 97, 100], [99, 104, 105, 108, 100]] sd adV A U H) ∧ va_Z "java/lang/String" "COMPACT_STRINGS" "Z" (.int 1) A U H ∧ vk_R RX7 33 "road" (sd 0) U ∧ vk_R RX7 52 "child" (sd 1) U
theorem XO.same {sd : Nat → Nat} {A : Nat → Prop} {u U : State} {H : Heap} (hv : U.vm = u.vm) (h : XO sd A u H) : XO sd A U H := by
  obtain ⟨⟨adV, h1⟩, h2, h3, h4⟩ := h
  have al : u.vm.Alike U.vm := by rw [hv]; exact Vm.Alike.refl _
  exact ⟨⟨adV, h1.moved al⟩, h2.moved al, h3.same hv, h4.same hv⟩
theorem XO.warm {sd : Nat → Nat} {A : Nat → Prop} {s U : State} {H : Heap} (hW : s.WarmedH U.vm) (h : XO sd A s H) : XO sd A U H := by
  obtain ⟨⟨adV, h1⟩, h2, h3, h4⟩ := h
  exact ⟨⟨adV, h1.moved hW.alike⟩, h2.moved hW.alike, h3.warm hW, h4.warm hW⟩
theorem XO.kept {sd : Nat → Nat} {A : Nat → Prop} {U : State} {H H1 : Heap} (h : XO sd A U H) (hq : ∀ a : Nat, a < H.size → ¬ A a → H1[a]? = H[a]?) : XO sd A U H1 := by
  obtain ⟨⟨adV, h1⟩, h2, h3, h4⟩ := h
  exact ⟨⟨adV, h1.kept hq⟩, h2.kept hq, h3, h4⟩
theorem XO.narrow {sd : Nat → Nat} {A B : Nat → Prop} {U : State} {H : Heap} (h : XO sd A U H) (hAB : ∀ q, B q → A q) : XO sd B U H := by
  obtain ⟨⟨adV, h1⟩, h2, h3, h4⟩ := h
  exact ⟨⟨adV, h1.narrow hAB⟩, h2.narrow hAB, h3, h4⟩
/-! methods: name, bytes, locals, what is returned, room -/
abbrev MI : Type := MethodName × ByteArray × Nat × Option FieldType × Room
abbrev tyl (tI tZ : ClassId) : List (ClassId × FieldType) := [(tI, .int), (tZ, .boolean)]
abbrev wsM (M : MI) : List Cond := .code M.1 M.2.1 M.2.2.1 M.2.2.2.1 :: tb
def Cx (M : MI) (p : Program) (s : State) (m : MethodId) (args : Array Value) (meth : Method) (c : Code) (D : va_G) (tI tZ : ClassId) (sd : Nat → Nat) (A : Nat → Prop) : Prop :=
  p.tables.exec = Jvm.exec ∧ c.code = M.2.1 ∧ c.maxLocals = M.2.2.1 ∧ meth.sig.returnType = M.2.2.2.1 ∧ meth.locks = false ∧ meth.name = M.1.name ∧ s.vm.findClass M.1.cls = some m.cls ∧ (∀ w ∈ tb, w.before args s = true) ∧ va_K D vwCl (tyl tI tZ) s ∧ (∀ q, s.heap.size ≤ q → A q) ∧ XO sd A s s.heap
def Wd (D : va_G) (tI tZ : ClassId) (ad sd : Nat → Nat) (A : Nat → Prop) (N : Nat) (S : St) (s : State) (H : Heap) (locs : List Loc) : Prop :=
  va_P D vwCl (aw tI tZ ad sd N S) H ∧ va_D A (aw tI tZ ad sd N S) ∧ va_S A s.heap H locs ∧ sok N S
def Qr (D : va_G) (tI tZ : ClassId) (ad sd : Nat → Nat) (A : Nat → Prop) (N : Nat) (out : Option Value) (N' : Nat) (S' : St) : Array Value → State → Outcome → State → Prop := fun _ st oc t =>
  ∃ ad' : Nat → Nat, N ≤ N' ∧ (∀ i, i < N → ad' i = ad i) ∧ (N' = N → ad' = ad) ∧ oc = .returned (out.map (cv ad' sd)) ∧ va_P D vwCl (aw tI tZ ad' sd N' S') t.heap ∧ va_D A (aw tI tZ ad' sd N' S') ∧ va_F A st t ∧ sok N' S'
/-- from here the method ends, with this answer and these cells -/
def Rn (M : MI) (pc : Nat) (L : List (Option Value)) (st : List Value) (N : Nat) (S : St) (k n : Nat) (out : Option Value) (N' : Nat) (S' : St) : Prop :=
  ∀ ⦃p : Program⦄ ⦃l : Launch⦄ ⦃e : Env⦄ ⦃s : State⦄ ⦃m : MethodId⦄ ⦃args : Array Value⦄ ⦃below : List Frame⦄ ⦃meth : Method⦄ ⦃c : Code⦄ ⦃D : va_G⦄ ⦃tI tZ : ClassId⦄ ⦃ad sd : Nat → Nat⦄ ⦃A : Nat → Prop⦄ ⦃H : Heap⦄ ⦃locs : List Loc⦄ ⦃ls : Array Slot⦄,
    Cx M p s m args meth c D tI tZ sd A → Wd D tI tZ ad sd A N S s H locs → lok ls M.2.2.1 ad sd L →
    W p l e M.2.2.2.2 s m args below meth c H locs k n (MQ below (Qr D tI tZ ad sd A N out N' S') args s M.2.2.2.2.cells M.2.2.2.2.slots A) (F0 m pc ls (st.map (cv ad sd)))
/-- the method, called with these values in these cells, ends so -/
def Mt (M : MI) (as : List Value) (N : Nat) (S : St) (out : Option Value) (N' : Nat) (S' : St) : Prop :=
  ∀ (l : Launch) (D : va_G) (tI tZ : ClassId) (ad sd : Nat → Nat) (sz : Nat), Met l M.1 (wsM M) M.2.2.2.2
    (va_Pc (as.map (cv ad sd)) (fun U => U.heap.size = sz ∧ va_P D vwCl (aw tI tZ ad sd N S) U.heap ∧ va_D (fun _ => True) (aw tI tZ ad sd N S) ∧ va_K D vwCl (tyl tI tZ) U ∧ XO sd (va_A (aw tI tZ ad sd N S) sz) U U.heap ∧ sok N S))
    (Qr D tI tZ ad sd (va_A (aw tI tZ ad sd N S) sz) N out N' S') M.2.2.2.2.cells M.2.2.2.2.slots (va_A (aw tI tZ ad sd N S) sz)
theorem Mt.of {M : MI} {as : List Value} {N : Nat} {S : St} {out : Option Value} {N' : Nat} {S' : St} {L : List (Option Value)} (hp : plainName M.1.cls = true) (hl : (de as).length ≤ M.2.2.1) (hL : de as ++ List.replicate (M.2.2.1 - (de as).length) none = L)
    (h : Rn M 0 L [] N S 0 0 out N' S') : Mt M as N S out N' S' := by
  intro l D tI tZ ad sd sz
  refine Met.ofW (cc := M.2.1) (maxL := M.2.2.1) (ret := M.2.2.2.1) hp rfl ?_
  intro p e s m args below meth c s₁ B hml hv
  obtain ⟨rfl, hsz, hP, hD0, hK, hX, hok⟩ := hv
  have hts := atoms_spec (ws := wsM M) B.pre
  subst hsz
  have C : Cx M p s m (as.map (cv ad sd)).toArray meth c D tI tZ sd (va_A (aw tI tZ ad sd N S) s.heap.size) :=
    ⟨B.exec, B.bytes, hml, B.returns, B.notSynchronized, (name_of_methodNamed B.named B.method).1, findClass_of_methodNamed B.named, fun w hw => hts w (List.mem_cons_of_mem _ hw), hK, fun q hq => Or.inr hq, hX⟩
  have he := lv_entry (as.map (cv ad sd)) (n := M.2.2.1) (by rw [lg_len]; exact hl)
  rw [lg_entry_eq]
  refine h C ⟨hP, hD0.self, va_S.rf, hok⟩ ⟨he.1, he.2.1, fun i v hi => ?_⟩
  rw [← hL] at hi
  have h2 := de_in (ad := ad) (sd := sd) _ as 0 i v hi
  rw [Nat.zero_add] at h2
  exact he.2.2 _ h2
theorem W.mono {p : Program} {l : Launch} {e : Env} {R : Room} {s : State} {m : MethodId} {args : Array Value} {below : List Frame} {meth : Method} {c : Code} {H : Heap} {locs : List Loc} {cells slots : Nat} {Q Q' : State → Prop} {g : JFrame} (hQ : ∀ t, Q t → Q' t)
    (h : W p l e R s m args below meth c H locs cells slots Q g) : W p l e R s m args below meth c H locs cells slots Q' g := by
  intro T hT X
  obtain ⟨t, a, b⟩ := h T hT X
  exact ⟨t, a, hQ t b⟩
end
section
/-! ===== ROWS: an instruction of the small machine each ===== -/
section ROWS
variable {M : MI} {N k n N' : Nat} {S S' : St} {out : Option Value} {pc : Nat} {L : List (Option Value)} {st : List Value}
theorem r_iconst {z : Int} (hd : decode M.2.1 pc = .ok (.iconst z, 1)) 
    (kk : Rn M (pc + 1) L (.int (Int32.ofInt z) :: st) N S k n out N' S') : Rn M pc L (st) N S k n out N' S' := by
  intro p l e s m args below meth c D tI tZ ad sd A H locs ls C Wk hL
  exact lv_iconst C.1 C.2.1 hd rfl (kk C Wk hL)
theorem r_bipush {z : Int} {v : Int32} (hd : decode M.2.1 pc = .ok (.bipush z, 2)) (hv : (Int8.ofInt z).toInt32 = v)
    (kk : Rn M (pc + 2) L (.int v :: st) N S k n out N' S') : Rn M pc L (st) N S k n out N' S' := by
  intro p l e s m args below meth c D tI tZ ad sd A H locs ls C Wk hL
  exact lv_bipush C.1 C.2.1 hd hv (kk C Wk hL)
theorem r_sipush {z : Int} {v : Int32} (hd : decode M.2.1 pc = .ok (.sipush z, 3)) (hv : (Int16.ofInt z).toInt32 = v)
    (kk : Rn M (pc + 3) L (.int v :: st) N S k n out N' S') : Rn M pc L (st) N S k n out N' S' := by
  intro p l e s m args below meth c D tI tZ ad sd A H locs ls C Wk hL
  exact lv_sipush C.1 C.2.1 hd hv (kk C Wk hL)
theorem r_lconst {z : Fin 2} {v : Int64} (hd : decode M.2.1 pc = .ok (.lconst z, 1)) (hv : Int64.ofNat (z : Nat) = v)
    (kk : Rn M (pc + 1) L (.long v :: st) N S k n out N' S') : Rn M pc L (st) N S k n out N' S' := by
  intro p l e s m args below meth c D tI tZ ad sd A H locs ls C Wk hL
  exact lv_lconst C.1 C.2.1 hd hv (kk C Wk hL)
theorem r_ldc {i : Nat} {v : Int32} (hd : decode M.2.1 pc = .ok (.ldc i, 2)) (hc : Cond.constant M.1.cls i v ∈ tb)
    (kk : Rn M (pc + 2) L (.int v :: st) N S k n out N' S') : Rn M pc L (st) N S k n out N' S' := by
  intro p l e s m args below meth c D tI tZ ad sd A H locs ls C Wk hL
  exact lv_ldc C.1 C.2.1 C.2.2.2.2.2.2.1 (C.2.2.2.2.2.2.2.1 _ hc) hd (kk C Wk hL)
theorem r_ldc2 {i : Nat} {v : Int64} (hd : decode M.2.1 pc = .ok (.ldc2_w i, 3)) (hc : Cond.constantLong M.1.cls i v ∈ tb)
    (kk : Rn M (pc + 3) L (.long v :: st) N S k n out N' S') : Rn M pc L (st) N S k n out N' S' := by
  intro p l e s m args below meth c D tI tZ ad sd A H locs ls C Wk hL
  exact lv_ldc2 C.1 C.2.1 C.2.2.2.2.2.2.1 (C.2.2.2.2.2.2.2.1 _ hc) hd (kk C Wk hL)
theorem r_iload_n {j : Fin 4} {x : Int32} (hd : decode M.2.1 pc = .ok (.iload_n j, 1)) (h : L[(j : Nat)]? = some (some (.int x)))
    (kk : Rn M (pc + 1) L (.int x :: st) N S k n out N' S') : Rn M pc L (st) N S k n out N' S' := by
  intro p l e s m args below meth c D tI tZ ad sd A H locs ls C Wk hL
  exact lv_iload_n C.1 C.2.1 hd rfl (hL.2.2 _ _ h) (kk C Wk hL)
theorem r_iload {j : Nat} {x : Int32} (hd : decode M.2.1 pc = .ok (.iload j, 2)) (h : L[j]? = some (some (.int x)))
    (kk : Rn M (pc + 2) L (.int x :: st) N S k n out N' S') : Rn M pc L (st) N S k n out N' S' := by
  intro p l e s m args below meth c D tI tZ ad sd A H locs ls C Wk hL
  exact lv_iload C.1 C.2.1 hd (hL.2.2 _ _ h) (kk C Wk hL)
theorem r_lload_n {j : Fin 4} {x : Int64} (hd : decode M.2.1 pc = .ok (.lload_n j, 1)) (h : L[(j : Nat)]? = some (some (.long x)))
    (kk : Rn M (pc + 1) L (.long x :: st) N S k n out N' S') : Rn M pc L (st) N S k n out N' S' := by
  intro p l e s m args below meth c D tI tZ ad sd A H locs ls C Wk hL
  exact lv_lload_n C.1 C.2.1 hd rfl (hL.2.2 _ _ h) (kk C Wk hL)
theorem r_lload {j : Nat} {x : Int64} (hd : decode M.2.1 pc = .ok (.lload j, 2)) (h : L[j]? = some (some (.long x)))
    (kk : Rn M (pc + 2) L (.long x :: st) N S k n out N' S') : Rn M pc L (st) N S k n out N' S' := by
  intro p l e s m args below meth c D tI tZ ad sd A H locs ls C Wk hL
  exact lv_lload C.1 C.2.1 hd (hL.2.2 _ _ h) (kk C Wk hL)
theorem r_aload_n {j : Fin 4} {x : Nat} (hd : decode M.2.1 pc = .ok (.aload_n j, 1)) (h : L[(j : Nat)]? = some (some (.ref x)))
    (kk : Rn M (pc + 1) L (.ref x :: st) N S k n out N' S') : Rn M pc L (st) N S k n out N' S' := by
  intro p l e s m args below meth c D tI tZ ad sd A H locs ls C Wk hL
  exact lv_aload_n C.1 C.2.1 hd rfl (hL.2.2 _ _ h) (kk C Wk hL)
theorem r_aload {j : Nat} {x : Nat} (hd : decode M.2.1 pc = .ok (.aload j, 2)) (h : L[j]? = some (some (.ref x)))
    (kk : Rn M (pc + 2) L (.ref x :: st) N S k n out N' S') : Rn M pc L (st) N S k n out N' S' := by
  intro p l e s m args below meth c D tI tZ ad sd A H locs ls C Wk hL
  exact lv_aload C.1 C.2.1 hd (hL.2.2 _ _ h) (kk C Wk hL)
theorem r_sload_n {j : Fin 4} {x : UInt32} (hd : decode M.2.1 pc = .ok (.aload_n j, 1)) (h : L[(j : Nat)]? = some (some (.float x)))
    (kk : Rn M (pc + 1) L (.float x :: st) N S k n out N' S') : Rn M pc L (st) N S k n out N' S' := by
  intro p l e s m args below meth c D tI tZ ad sd A H locs ls C Wk hL
  exact lv_aload_n C.1 C.2.1 hd rfl (hL.2.2 _ _ h) (kk C Wk hL)
theorem r_istore_n {j : Fin 4} {i : Nat} {x : Int32} {L' : List (Option Value)} (hd : decode M.2.1 pc = .ok (.istore_n j, 1)) (hi : (j : Nat) = i) (hn : i < M.2.2.1) (hL2 : l1 L i (.int x) = L')
    (kk : Rn M (pc + 1) L' st N S k n out N' S') : Rn M pc L (.int x :: st) N S k n out N' S' := by
  intro p l e s m args below meth c D tI tZ ad sd A H locs ls C Wk hL
  subst hL2
  exact lv_istore_n (lv' := _) C.1 C.2.1 hd hi (lok_prs hL) hn rfl (fun ls' h' => kk C Wk (lok_s1 (v := .int x) h'))
theorem r_istore {i : Nat} {x : Int32} {L' : List (Option Value)} (hd : decode M.2.1 pc = .ok (.istore i, 2)) (hn : i < M.2.2.1) (hL2 : l1 L i (.int x) = L')
    (kk : Rn M (pc + 2) L' st N S k n out N' S') : Rn M pc L (.int x :: st) N S k n out N' S' := by
  intro p l e s m args below meth c D tI tZ ad sd A H locs ls C Wk hL
  subst hL2
  exact lv_istore (lv' := _) C.1 C.2.1 hd (lok_prs hL) hn rfl (fun ls' h' => kk C Wk (lok_s1 (v := .int x) h'))
theorem r_lstore_n {j : Fin 4} {i : Nat} {x : Int64} {L' : List (Option Value)} (hd : decode M.2.1 pc = .ok (.lstore_n j, 1)) (hi : (j : Nat) = i) (hn : i + 1 < M.2.2.1) (hL2 : l2 L i (.long x) = L')
    (kk : Rn M (pc + 1) L' st N S k n out N' S') : Rn M pc L (.long x :: st) N S k n out N' S' := by
  intro p l e s m args below meth c D tI tZ ad sd A H locs ls C Wk hL
  subst hL2
  exact lv_lstore_n (lv' := _) C.1 C.2.1 hd hi (lok_prs hL) hn rfl (fun ls' h' => kk C Wk (lok_s2 (v := .long x) h'))
theorem r_lstore {i : Nat} {x : Int64} {L' : List (Option Value)} (hd : decode M.2.1 pc = .ok (.lstore i, 2)) (hn : i + 1 < M.2.2.1) (hL2 : l2 L i (.long x) = L')
    (kk : Rn M (pc + 2) L' st N S k n out N' S') : Rn M pc L (.long x :: st) N S k n out N' S' := by
  intro p l e s m args below meth c D tI tZ ad sd A H locs ls C Wk hL
  subst hL2
  exact lv_lstore (lv' := _) C.1 C.2.1 hd (lok_prs hL) hn rfl (fun ls' h' => kk C Wk (lok_s2 (v := .long x) h'))
theorem r_astore_n {j : Fin 4} {i : Nat} {x : Nat} {L' : List (Option Value)} (hd : decode M.2.1 pc = .ok (.astore_n j, 1)) (hi : (j : Nat) = i) (hn : i < M.2.2.1) (hL2 : l1 L i (.ref x) = L')
    (kk : Rn M (pc + 1) L' st N S k n out N' S') : Rn M pc L (.ref x :: st) N S k n out N' S' := by
  intro p l e s m args below meth c D tI tZ ad sd A H locs ls C Wk hL
  subst hL2
  exact lv_astore_n (lv' := _) C.1 C.2.1 hd hi (lok_prs hL) hn rfl (fun ls' h' => kk C Wk (lok_s1 (v := .ref x) h'))
theorem r_astore {i : Nat} {x : Nat} {L' : List (Option Value)} (hd : decode M.2.1 pc = .ok (.astore i, 2)) (hn : i < M.2.2.1) (hL2 : l1 L i (.ref x) = L')
    (kk : Rn M (pc + 2) L' st N S k n out N' S') : Rn M pc L (.ref x :: st) N S k n out N' S' := by
  intro p l e s m args below meth c D tI tZ ad sd A H locs ls C Wk hL
  subst hL2
  exact lv_astore (lv' := _) C.1 C.2.1 hd (lok_prs hL) hn rfl (fun ls' h' => kk C Wk (lok_s1 (v := .ref x) h'))
theorem r_iinc {i : Nat} {z : Int} {x : Int32} {L' : List (Option Value)} (hd : decode M.2.1 pc = .ok (.iinc i z, 3)) (h : L[i]? = some (some (.int x))) (hn : i < M.2.2.1) (hL2 : l1 L i (.int (x + Int32.ofInt z)) = L')
    (kk : Rn M (pc + 3) L' st N S k n out N' S') : Rn M pc L st N S k n out N' S' := by
  intro p l e s m args below meth c D tI tZ ad sd A H locs ls C Wk hL
  subst hL2
  obtain ⟨q, hq⟩ := List.getElem?_of_mem (prs_in (ad := ad) (sd := sd) h)
  exact lv_iinc (lv' := _) C.1 C.2.1 hd (lok_prs hL) hq rfl hn rfl (fun ls' h' => kk C Wk (lok_s1 (v := .int (x + Int32.ofInt z)) h'))
theorem r_iadd {x y : Int32} (hd : decode M.2.1 pc = .ok (.iadd, 1)) 
    (kk : Rn M (pc + 1) L (.int (x + y) :: st) N S k n out N' S') : Rn M pc L (.int y :: .int x :: st) N S k n out N' S' := by
  intro p l e s m args below meth c D tI tZ ad sd A H locs ls C Wk hL
  exact lv_iadd C.1 C.2.1 hd (kk C Wk hL)
theorem r_isub {x y : Int32} (hd : decode M.2.1 pc = .ok (.isub, 1)) 
    (kk : Rn M (pc + 1) L (.int (x - y) :: st) N S k n out N' S') : Rn M pc L (.int y :: .int x :: st) N S k n out N' S' := by
  intro p l e s m args below meth c D tI tZ ad sd A H locs ls C Wk hL
  exact lv_isub C.1 C.2.1 hd (kk C Wk hL)
theorem r_imul {x y : Int32} (hd : decode M.2.1 pc = .ok (.imul, 1)) 
    (kk : Rn M (pc + 1) L (.int (x * y) :: st) N S k n out N' S') : Rn M pc L (.int y :: .int x :: st) N S k n out N' S' := by
  intro p l e s m args below meth c D tI tZ ad sd A H locs ls C Wk hL
  exact lv_imul C.1 C.2.1 hd (kk C Wk hL)
theorem r_iand {x y : Int32} (hd : decode M.2.1 pc = .ok (.iand, 1)) 
    (kk : Rn M (pc + 1) L (.int (x &&& y) :: st) N S k n out N' S') : Rn M pc L (.int y :: .int x :: st) N S k n out N' S' := by
  intro p l e s m args below meth c D tI tZ ad sd A H locs ls C Wk hL
  exact lv_iand C.1 C.2.1 hd (kk C Wk hL)
theorem r_ior {x y : Int32} (hd : decode M.2.1 pc = .ok (.ior, 1)) 
    (kk : Rn M (pc + 1) L (.int (x ||| y) :: st) N S k n out N' S') : Rn M pc L (.int y :: .int x :: st) N S k n out N' S' := by
  intro p l e s m args below meth c D tI tZ ad sd A H locs ls C Wk hL
  exact lv_ior C.1 C.2.1 hd (kk C Wk hL)
theorem r_ixor {x y : Int32} (hd : decode M.2.1 pc = .ok (.ixor, 1)) 
    (kk : Rn M (pc + 1) L (.int (x ^^^ y) :: st) N S k n out N' S') : Rn M pc L (.int y :: .int x :: st) N S k n out N' S' := by
  intro p l e s m args below meth c D tI tZ ad sd A H locs ls C Wk hL
  exact lv_ixor C.1 C.2.1 hd (kk C Wk hL)
theorem r_ladd {x y : Int64} (hd : decode M.2.1 pc = .ok (.ladd, 1)) 
    (kk : Rn M (pc + 1) L (.long (x + y) :: st) N S k n out N' S') : Rn M pc L (.long y :: .long x :: st) N S k n out N' S' := by
  intro p l e s m args below meth c D tI tZ ad sd A H locs ls C Wk hL
  exact lv_ladd C.1 C.2.1 hd (kk C Wk hL)
theorem r_lsub {x y : Int64} (hd : decode M.2.1 pc = .ok (.lsub, 1)) 
    (kk : Rn M (pc + 1) L (.long (x - y) :: st) N S k n out N' S') : Rn M pc L (.long y :: .long x :: st) N S k n out N' S' := by
  intro p l e s m args below meth c D tI tZ ad sd A H locs ls C Wk hL
  exact lv_lsub C.1 C.2.1 hd (kk C Wk hL)
theorem r_lmul {x y : Int64} (hd : decode M.2.1 pc = .ok (.lmul, 1)) 
    (kk : Rn M (pc + 1) L (.long (x * y) :: st) N S k n out N' S') : Rn M pc L (.long y :: .long x :: st) N S k n out N' S' := by
  intro p l e s m args below meth c D tI tZ ad sd A H locs ls C Wk hL
  exact lv_lmul C.1 C.2.1 hd (kk C Wk hL)
theorem r_land {x y : Int64} (hd : decode M.2.1 pc = .ok (.land, 1)) 
    (kk : Rn M (pc + 1) L (.long (x &&& y) :: st) N S k n out N' S') : Rn M pc L (.long y :: .long x :: st) N S k n out N' S' := by
  intro p l e s m args below meth c D tI tZ ad sd A H locs ls C Wk hL
  exact lv_land C.1 C.2.1 hd (kk C Wk hL)
theorem r_lor {x y : Int64} (hd : decode M.2.1 pc = .ok (.lor, 1)) 
    (kk : Rn M (pc + 1) L (.long (x ||| y) :: st) N S k n out N' S') : Rn M pc L (.long y :: .long x :: st) N S k n out N' S' := by
  intro p l e s m args below meth c D tI tZ ad sd A H locs ls C Wk hL
  exact lv_lor C.1 C.2.1 hd (kk C Wk hL)
theorem r_ineg {x : Int32} (hd : decode M.2.1 pc = .ok (.ineg, 1)) 
    (kk : Rn M (pc + 1) L (.int (-x) :: st) N S k n out N' S') : Rn M pc L (.int x :: st) N S k n out N' S' := by
  intro p l e s m args below meth c D tI tZ ad sd A H locs ls C Wk hL
  exact lv_ineg C.1 C.2.1 hd (kk C Wk hL)
theorem r_idiv {x y : Int32} (hd : decode M.2.1 pc = .ok (.idiv, 1)) (hy : ¬ y = 0)
    (kk : Rn M (pc + 1) L (.int (x / y) :: st) N S k n out N' S') : Rn M pc L (.int y :: .int x :: st) N S k n out N' S' := by
  intro p l e s m args below meth c D tI tZ ad sd A H locs ls C Wk hL
  exact lv_idiv C.1 C.2.1 hd hy (kk C Wk hL)
theorem r_irem {x y : Int32} (hd : decode M.2.1 pc = .ok (.irem, 1)) (hy : ¬ y = 0)
    (kk : Rn M (pc + 1) L (.int (x - x / y * y) :: st) N S k n out N' S') : Rn M pc L (.int y :: .int x :: st) N S k n out N' S' := by
  intro p l e s m args below meth c D tI tZ ad sd A H locs ls C Wk hL
  exact lv_irem C.1 C.2.1 hd hy (kk C Wk hL)
theorem r_ldiv {x y : Int64} (hd : decode M.2.1 pc = .ok (.ldiv, 1)) (hy : ¬ y = 0)
    (kk : Rn M (pc + 1) L (.long (x / y) :: st) N S k n out N' S') : Rn M pc L (.long y :: .long x :: st) N S k n out N' S' := by
  intro p l e s m args below meth c D tI tZ ad sd A H locs ls C Wk hL
  exact lv_ldiv C.1 C.2.1 hd hy (kk C Wk hL)
theorem r_lrem {x y : Int64} (hd : decode M.2.1 pc = .ok (.lrem, 1)) (hy : ¬ y = 0)
    (kk : Rn M (pc + 1) L (.long (x - x / y * y) :: st) N S k n out N' S') : Rn M pc L (.long y :: .long x :: st) N S k n out N' S' := by
  intro p l e s m args below meth c D tI tZ ad sd A H locs ls C Wk hL
  exact lv_lrem C.1 C.2.1 hd hy (kk C Wk hL)
theorem r_ishl {x y : Int32} (hd : decode M.2.1 pc = .ok (.ishl, 1)) 
    (kk : Rn M (pc + 1) L (.int (x <<< (y &&& 31)) :: st) N S k n out N' S') : Rn M pc L (.int y :: .int x :: st) N S k n out N' S' := by
  intro p l e s m args below meth c D tI tZ ad sd A H locs ls C Wk hL
  exact lv_ishl C.1 C.2.1 hd (kk C Wk hL)
theorem r_ishr {x y : Int32} (hd : decode M.2.1 pc = .ok (.ishr, 1)) 
    (kk : Rn M (pc + 1) L (.int (x >>> (y &&& 31)) :: st) N S k n out N' S') : Rn M pc L (.int y :: .int x :: st) N S k n out N' S' := by
  intro p l e s m args below meth c D tI tZ ad sd A H locs ls C Wk hL
  exact lv_ishr C.1 C.2.1 hd (kk C Wk hL)
theorem r_iushr {x y : Int32} (hd : decode M.2.1 pc = .ok (.iushr, 1)) 
    (kk : Rn M (pc + 1) L (.int (x.toUInt32 >>> (y.toUInt32 &&& Int32.toUInt32 31)).toInt32 :: st) N S k n out N' S') : Rn M pc L (.int y :: .int x :: st) N S k n out N' S' := by
  intro p l e s m args below meth c D tI tZ ad sd A H locs ls C Wk hL
  exact lv_iushr C.1 C.2.1 hd rfl (kk C Wk hL)
theorem r_lushr {x : Int64} {y : Int32} (hd : decode M.2.1 pc = .ok (.lushr, 1)) 
    (kk : Rn M (pc + 1) L (.long (x.toUInt64 >>> (y.toInt64.toUInt64 &&& Int64.toUInt64 63)).toInt64 :: st) N S k n out N' S') : Rn M pc L (.int y :: .long x :: st) N S k n out N' S' := by
  intro p l e s m args below meth c D tI tZ ad sd A H locs ls C Wk hL
  exact lv_lushr C.1 C.2.1 hd rfl (kk C Wk hL)
theorem r_lshl {x : Int64} {y : Int32} (hd : decode M.2.1 pc = .ok (.lshl, 1)) 
    (kk : Rn M (pc + 1) L (.long (x <<< (y.toInt64 &&& 63)) :: st) N S k n out N' S') : Rn M pc L (.int y :: .long x :: st) N S k n out N' S' := by
  intro p l e s m args below meth c D tI tZ ad sd A H locs ls C Wk hL
  exact lv_lshl C.1 C.2.1 hd rfl (kk C Wk hL)
theorem r_lshr {x : Int64} {y : Int32} (hd : decode M.2.1 pc = .ok (.lshr, 1)) 
    (kk : Rn M (pc + 1) L (.long (x >>> (y.toInt64 &&& 63)) :: st) N S k n out N' S') : Rn M pc L (.int y :: .long x :: st) N S k n out N' S' := by
  intro p l e s m args below meth c D tI tZ ad sd A H locs ls C Wk hL
  exact lv_lshr C.1 C.2.1 hd rfl (kk C Wk hL)
theorem r_lcmp {x y : Int64} (hd : decode M.2.1 pc = .ok (.lcmp, 1)) 
    (kk : Rn M (pc + 1) L (.int (lg_cmp x y) :: st) N S k n out N' S') : Rn M pc L (.long y :: .long x :: st) N S k n out N' S' := by
  intro p l e s m args below meth c D tI tZ ad sd A H locs ls C Wk hL
  exact W.lcmp C.1 C.2.1 hd (kk C Wk hL)
theorem r_i2l {x : Int32} (hd : decode M.2.1 pc = .ok (.i2l, 1)) 
    (kk : Rn M (pc + 1) L (.long x.toInt64 :: st) N S k n out N' S') : Rn M pc L (.int x :: st) N S k n out N' S' := by
  intro p l e s m args below meth c D tI tZ ad sd A H locs ls C Wk hL
  exact lv_i2l C.1 C.2.1 hd rfl (kk C Wk hL)
theorem r_l2i {x : Int64} (hd : decode M.2.1 pc = .ok (.l2i, 1)) 
    (kk : Rn M (pc + 1) L (.int x.toInt32 :: st) N S k n out N' S') : Rn M pc L (.long x :: st) N S k n out N' S' := by
  intro p l e s m args below meth c D tI tZ ad sd A H locs ls C Wk hL
  exact lv_l2i C.1 C.2.1 hd rfl (kk C Wk hL)
theorem r_dup {v : Value} (hd : decode M.2.1 pc = .ok (.dup, 1)) (hv : v.category = 1)
    (kk : Rn M (pc + 1) L (v :: v :: st) N S k n out N' S') : Rn M pc L (v :: st) N S k n out N' S' := by
  intro p l e s m args below meth c D tI tZ ad sd A H locs ls C Wk hL
  exact lv_dup C.1 C.2.1 hd ((cv_cat v).trans hv) (kk C Wk hL)
theorem r_pop {v : Value} (hd : decode M.2.1 pc = .ok (.pop, 1)) (hv : v.category = 1)
    (kk : Rn M (pc + 1) L (st) N S k n out N' S') : Rn M pc L (v :: st) N S k n out N' S' := by
  intro p l e s m args below meth c D tI tZ ad sd A H locs ls C Wk hL
  exact lv_pop C.1 C.2.1 hd ((cv_cat v).trans hv) (kk C Wk hL)
theorem r_dup2 {v w : Value} (hd : decode M.2.1 pc = .ok (.dup2, 1)) (hv : v.category = 1) (hw : w.category = 1)
    (kk : Rn M (pc + 1) L (v :: w :: v :: w :: st) N S k n out N' S') : Rn M pc L (v :: w :: st) N S k n out N' S' := by
  intro p l e s m args below meth c D tI tZ ad sd A H locs ls C Wk hL
  exact lv_dup2_11 C.1 C.2.1 hd ((cv_cat v).trans hv) ((cv_cat w).trans hw) (kk C Wk hL)
theorem r_if_eq {x : Int32} {off : Int} {tgt : Nat} (hd : decode M.2.1 pc = .ok (.ifCond .eq off, 3)) (ht : (pc : Int) + off = (tgt : Int))
    (kt : x = 0 → Rn M tgt L st N S k n out N' S') (kf : ¬ x = 0 → Rn M (pc + 3) L st N S k n out N' S') : Rn M pc L (.int x :: st) N S k n out N' S' := by
  intro p l e s m args below meth c D tI tZ ad sd A H locs ls C Wk hL
  exact lv_if_eq C.1 C.2.1 hd ht (fun h => kt h C Wk hL) (fun h => kf h C Wk hL)
theorem r_icmp_eq {x y : Int32} {off : Int} {tgt : Nat} (hd : decode M.2.1 pc = .ok (.if_icmp .eq off, 3)) (ht : (pc : Int) + off = (tgt : Int))
    (kt : x = y → Rn M tgt L st N S k n out N' S') (kf : ¬ x = y → Rn M (pc + 3) L st N S k n out N' S') : Rn M pc L (.int y :: .int x :: st) N S k n out N' S' := by
  intro p l e s m args below meth c D tI tZ ad sd A H locs ls C Wk hL
  exact lv_icmp_eq C.1 C.2.1 hd ht (fun h => kt h C Wk hL) (fun h => kf h C Wk hL)
theorem r_if_ne {x : Int32} {off : Int} {tgt : Nat} (hd : decode M.2.1 pc = .ok (.ifCond .ne off, 3)) (ht : (pc : Int) + off = (tgt : Int))
    (kt : ¬ x = 0 → Rn M tgt L st N S k n out N' S') (kf : x = 0 → Rn M (pc + 3) L st N S k n out N' S') : Rn M pc L (.int x :: st) N S k n out N' S' := by
  intro p l e s m args below meth c D tI tZ ad sd A H locs ls C Wk hL
  exact lv_if_ne C.1 C.2.1 hd ht (fun h => kt h C Wk hL) (fun h => kf h C Wk hL)
theorem r_icmp_ne {x y : Int32} {off : Int} {tgt : Nat} (hd : decode M.2.1 pc = .ok (.if_icmp .ne off, 3)) (ht : (pc : Int) + off = (tgt : Int))
    (kt : ¬ x = y → Rn M tgt L st N S k n out N' S') (kf : x = y → Rn M (pc + 3) L st N S k n out N' S') : Rn M pc L (.int y :: .int x :: st) N S k n out N' S' := by
  intro p l e s m args below meth c D tI tZ ad sd A H locs ls C Wk hL
  exact lv_icmp_ne C.1 C.2.1 hd ht (fun h => kt h C Wk hL) (fun h => kf h C Wk hL)
theorem r_if_lt {x : Int32} {off : Int} {tgt : Nat} (hd : decode M.2.1 pc = .ok (.ifCond .lt off, 3)) (ht : (pc : Int) + off = (tgt : Int))
    (kt : x < 0 → Rn M tgt L st N S k n out N' S') (kf : ¬ x < 0 → Rn M (pc + 3) L st N S k n out N' S') : Rn M pc L (.int x :: st) N S k n out N' S' := by
  intro p l e s m args below meth c D tI tZ ad sd A H locs ls C Wk hL
  exact lv_if_lt C.1 C.2.1 hd ht (fun h => kt h C Wk hL) (fun h => kf h C Wk hL)
theorem r_icmp_lt {x y : Int32} {off : Int} {tgt : Nat} (hd : decode M.2.1 pc = .ok (.if_icmp .lt off, 3)) (ht : (pc : Int) + off = (tgt : Int))
    (kt : x < y → Rn M tgt L st N S k n out N' S') (kf : ¬ x < y → Rn M (pc + 3) L st N S k n out N' S') : Rn M pc L (.int y :: .int x :: st) N S k n out N' S' := by
  intro p l e s m args below meth c D tI tZ ad sd A H locs ls C Wk hL
  exact lv_icmp_lt C.1 C.2.1 hd ht (fun h => kt h C Wk hL) (fun h => kf h C Wk hL)
theorem r_if_ge {x : Int32} {off : Int} {tgt : Nat} (hd : decode M.2.1 pc = .ok (.ifCond .ge off, 3)) (ht : (pc : Int) + off = (tgt : Int))
    (kt : 0 ≤ x → Rn M tgt L st N S k n out N' S') (kf : ¬ 0 ≤ x → Rn M (pc + 3) L st N S k n out N' S') : Rn M pc L (.int x :: st) N S k n out N' S' := by
  intro p l e s m args below meth c D tI tZ ad sd A H locs ls C Wk hL
  exact lv_if_ge C.1 C.2.1 hd ht (fun h => kt h C Wk hL) (fun h => kf h C Wk hL)
theorem r_icmp_ge {x y : Int32} {off : Int} {tgt : Nat} (hd : decode M.2.1 pc = .ok (.if_icmp .ge off, 3)) (ht : (pc : Int) + off = (tgt : Int))
    (kt : y ≤ x → Rn M tgt L st N S k n out N' S') (kf : ¬ y ≤ x → Rn M (pc + 3) L st N S k n out N' S') : Rn M pc L (.int y :: .int x :: st) N S k n out N' S' := by
  intro p l e s m args below meth c D tI tZ ad sd A H locs ls C Wk hL
  exact lv_icmp_ge C.1 C.2.1 hd ht (fun h => kt h C Wk hL) (fun h => kf h C Wk hL)
theorem r_if_gt {x : Int32} {off : Int} {tgt : Nat} (hd : decode M.2.1 pc = .ok (.ifCond .gt off, 3)) (ht : (pc : Int) + off = (tgt : Int))
    (kt : 0 < x → Rn M tgt L st N S k n out N' S') (kf : ¬ 0 < x → Rn M (pc + 3) L st N S k n out N' S') : Rn M pc L (.int x :: st) N S k n out N' S' := by
  intro p l e s m args below meth c D tI tZ ad sd A H locs ls C Wk hL
  exact lv_if_gt C.1 C.2.1 hd ht (fun h => kt h C Wk hL) (fun h => kf h C Wk hL)
theorem r_icmp_gt {x y : Int32} {off : Int} {tgt : Nat} (hd : decode M.2.1 pc = .ok (.if_icmp .gt off, 3)) (ht : (pc : Int) + off = (tgt : Int))
    (kt : y < x → Rn M tgt L st N S k n out N' S') (kf : ¬ y < x → Rn M (pc + 3) L st N S k n out N' S') : Rn M pc L (.int y :: .int x :: st) N S k n out N' S' := by
  intro p l e s m args below meth c D tI tZ ad sd A H locs ls C Wk hL
  exact lv_icmp_gt C.1 C.2.1 hd ht (fun h => kt h C Wk hL) (fun h => kf h C Wk hL)
theorem r_if_le {x : Int32} {off : Int} {tgt : Nat} (hd : decode M.2.1 pc = .ok (.ifCond .le off, 3)) (ht : (pc : Int) + off = (tgt : Int))
    (kt : x ≤ 0 → Rn M tgt L st N S k n out N' S') (kf : ¬ x ≤ 0 → Rn M (pc + 3) L st N S k n out N' S') : Rn M pc L (.int x :: st) N S k n out N' S' := by
  intro p l e s m args below meth c D tI tZ ad sd A H locs ls C Wk hL
  exact lv_if_le C.1 C.2.1 hd ht (fun h => kt h C Wk hL) (fun h => kf h C Wk hL)
theorem r_icmp_le {x y : Int32} {off : Int} {tgt : Nat} (hd : decode M.2.1 pc = .ok (.if_icmp .le off, 3)) (ht : (pc : Int) + off = (tgt : Int))
    (kt : x ≤ y → Rn M tgt L st N S k n out N' S') (kf : ¬ x ≤ y → Rn M (pc + 3) L st N S k n out N' S') : Rn M pc L (.int y :: .int x :: st) N S k n out N' S' := by
  intro p l e s m args below meth c D tI tZ ad sd A H locs ls C Wk hL
  exact lv_icmp_le C.1 C.2.1 hd ht (fun h => kt h C Wk hL) (fun h => kf h C Wk hL)
theorem r_goto {off : Int} {tgt : Nat} (hd : decode M.2.1 pc = .ok (.goto off, 3)) (ht : (pc : Int) + off = (tgt : Int))
    (kk : Rn M tgt L st N S k n out N' S') : Rn M pc L st N S k n out N' S' := by
  intro p l e s m args below meth c D tI tZ ad sd A H locs ls C Wk hL
  exact lv_goto C.1 C.2.1 hd ht (kk C Wk hL)
theorem r_tsOut {dflt lo hi : Int} {offs : Array Int} {len : Nat} {x : Int32} {tgt : Nat} (hd : decode M.2.1 pc = .ok (.tableswitch dflt lo hi offs, len)) (h : x.toInt < lo ∨ hi < x.toInt) (ht : (pc : Int) + dflt = (tgt : Int))
    (kk : Rn M tgt L st N S k n out N' S') : Rn M pc L (.int x :: st) N S k n out N' S' := by
  intro p l e s m args below meth c D tI tZ ad sd A H locs ls C Wk hL
  exact lv_tableOut C.1 C.2.1 hd h ht (kk C Wk hL)
theorem r_tsIn {dflt lo hi : Int} {offs : Array Int} {len : Nat} {x : Int32} {off : Int} {tgt : Nat} (hd : decode M.2.1 pc = .ok (.tableswitch dflt lo hi offs, len)) (h1 : ¬ x.toInt < lo) (h2 : ¬ hi < x.toInt) (ho : offs[(x.toInt - lo).toNat]? = some off) (ht : (pc : Int) + off = (tgt : Int))
    (kk : Rn M tgt L st N S k n out N' S') : Rn M pc L (.int x :: st) N S k n out N' S' := by
  intro p l e s m args below meth c D tI tZ ad sd A H locs ls C Wk hL
  exact lv_tableIn C.1 C.2.1 hd h1 h2 ho ht (kk C Wk hL)
end ROWS
/-! fields -/
def FSite (own : String) (idx ci fk : Nat) (fin dec : Bool) (ty : FieldType) : Prop :=
  ∃ (C : String) (T : u_T) (Nf : Nat) (ty0 : Nat → FieldType), vwCl[ci]? = some (C, T, Nf) ∧ (∀ w ∈ u_ws C T Nf, w ∈ tb) ∧ fk < Nf ∧ Cond.fieldLink own idx (T fk).1 (T fk).2.1 (T fk).2.2.1 ∈ tb ∧ (T fk).2.2.2 = fin ∧ parseFieldDescriptor (T fk).2.2.1 = some ty ∧ (∀ k, k < Nf → parseFieldDescriptor (T k).2.2.1 = some (ty0 k)) ∧ (∀ a, a < Nf → ∀ b, b < Nf → a ≠ b → (T a).2.1 ≠ (T b).2.1) ∧ (dec = true → (T fk).1 = own)
def vfit : FieldType → Value → Bool
  | .int, .int _ => true
  | .long, .long _ => true
  | .boolean, .int x => x == 0 || x == 1
  | .object _, .ref _ => true
  | .array _, .ref _ => true
  | _, _ => false
theorem vfit_cv {ad sd : Nat → Nat} {ty : FieldType} {v : Value} (h : vfit ty v = true) : narrow ty (cv ad sd v) = cv ad sd v ∧ fits ty (cv ad sd v) = true := by
  cases ty <;> cases v <;> first | exact ⟨rfl, rfl⟩ | (exfalso; exact absurd h (by intro q; cases q)) | skip
  rename_i x
  simp only [vfit, Bool.or_eq_true, beq_iff_eq] at h
  rcases h with rfl | rfl <;> exact ⟨rfl, rfl⟩
section ROWF
variable {M : MI} {N k n N' : Nat} {S S' : St} {out : Option Value} {pc : Nat} {L : List (Option Value)} {st : List Value}
theorem r_getf {idx ci fk a : Nat} {fin dec : Bool} {ty : FieldType} {fs : List Value} {v : Value} (hd : decode M.2.1 pc = .ok (.getfield idx, 3)) (F : FSite M.1.cls idx ci fk fin dec ty) (hS : S a = some (.inr (ci, fs))) (hv : fs[fk]? = some v)
    (kk : Rn M (pc + 3) L (v :: st) N S k n out N' S') : Rn M pc L (.ref a :: st) N S k n out N' S' := by
  intro p l e s m args below meth c D tI tZ ad sd A H locs ls C Wk hL
  obtain ⟨CC, T, Nf, ty0, hc, hin, hk, hlk, -⟩ := F
  obtain ⟨hx, hb, hml, hr, hlo, hnm, hown, hts, hK, hA, hX⟩ := id C
  have he := aw_at (tI := tI) (tZ := tZ) (ad := ad) (sd := sd) (Wk.2.2.2 a _ hS) hS
  exact va_get hx hb hts hin hown hK Wk.1 a he hc fk hk (hts _ hlk) (fun _ h => h) (v := cv ad sd v) (by rw [List.getElem?_map, hv]; rfl) hd (kk C Wk hL)
theorem r_putf {idx ci fk a : Nat} {dec : Bool} {ty : FieldType} {fs : List Value} {v : Value} (hd : decode M.2.1 pc = .ok (.putfield idx, 3)) (F : FSite M.1.cls idx ci fk false dec ty) (hS : S a = some (.inr (ci, fs))) (hl : fk < fs.length) (hf : vfit ty v = true)
    (kk : Rn M (pc + 3) L st N (su S a (.inr (ci, fs.set fk v))) k n out N' S') : Rn M pc L (v :: .ref a :: st) N S k n out N' S' := by
  intro p l e s m args below meth c D tI tZ ad sd A H locs ls C Wk hL
  obtain ⟨CC, T, Nf, ty0, hc, hin, hk, hlk, hfin, hpd, hty, hnmm, -⟩ := F
  obtain ⟨hx, hb, hml, hr, hlo, hnm, hown, hts, hK, hA, hX⟩ := id C
  have hi := Wk.2.2.2 a _ hS
  have he := aw_at (tI := tI) (tZ := tZ) (ad := ad) (sd := sd) hi hS
  refine va_put hx hb hts hin ty0 hty hnmm hown hK Wk.1 Wk.2.1 Wk.2.2.1 a he hc fk hk (hts _ hlk) (fun _ h => h) hfin hpd (vfit_cv hf).1 (vfit_cv hf).2 (by rw [List.length_map]; exact hl) hd (fun H1 locs1 hP1 hD1 hS1 => ?_)
  rw [← List.map_set] at hP1 hD1
  have e : (aw tI tZ ad sd N S).set a (ad a, .inr (ci, List.map (cv ad sd) (fs.set fk v))) = aw tI tZ ad sd N (su S a (.inr (ci, fs.set fk v))) := aw_set (o := .inr (ci, fs.set fk v))
  rw [e] at hP1 hD1
  exact kk C ⟨hP1, hD1, hS1, sok_su Wk.2.2.2 hi⟩ hL
theorem r_putF {idx ci fk a : Nat} {ty : FieldType} {fs : List Value} {v : Value} (hd : decode M.2.1 pc = .ok (.putfield idx, 3)) (F : FSite M.1.cls idx ci fk true true ty) (hin2 : M.1.name = "<init>") (hS : S a = some (.inr (ci, fs))) (hl : fk < fs.length) (hf : vfit ty v = true)
    (kk : Rn M (pc + 3) L st N (su S a (.inr (ci, fs.set fk v))) k n out N' S') : Rn M pc L (v :: .ref a :: st) N S k n out N' S' := by
  intro p l e s m args below meth c D tI tZ ad sd A H locs ls C Wk hL
  obtain ⟨CC, T, Nf, ty0, hc, hin, hk, hlk, hfin, hpd, hty, hnmm, hdec⟩ := F
  obtain ⟨hx, hb, hml, hr, hlo, hnm, hown, hts, hK, hA, hX⟩ := id C
  have hi := Wk.2.2.2 a _ hS
  have he := aw_at (tI := tI) (tZ := tZ) (ad := ad) (sd := sd) hi hS
  refine va_putF hx hb hts hin ty0 hty hnmm hown hK Wk.1 Wk.2.1 Wk.2.2.1 a he hc fk hk (hts _ hlk) (fun _ h => h) hfin (hnm.trans hin2) (hdec rfl) hpd (vfit_cv hf).1 (vfit_cv hf).2 (by rw [List.length_map]; exact hl) hd (fun H1 locs1 hP1 hD1 hS1 => ?_)
  rw [← List.map_set] at hP1 hD1
  have e : (aw tI tZ ad sd N S).set a (ad a, .inr (ci, List.map (cv ad sd) (fs.set fk v))) = aw tI tZ ad sd N (su S a (.inr (ci, fs.set fk v))) := aw_set (o := .inr (ci, fs.set fk v))
  rw [e] at hP1 hD1
  exact kk C ⟨hP1, hD1, hS1, sok_su Wk.2.2.2 hi⟩ hL
/-! arrays -/
theorem r_iald {a len : Nat} {f : Nat → Int32} {i : Int32} (hd : decode M.2.1 pc = .ok (.iaload, 1)) (hS : S a = some (.inl (false, len, f))) (hi : vp_in i len)
    (kk : Rn M (pc + 1) L (.int (f i.toNatClampNeg) :: st) N S k n out N' S') : Rn M pc L (.int i :: .ref a :: st) N S k n out N' S' := by
  intro p l e s m args below meth c D tI tZ ad sd A H locs ls C Wk hL
  have he : (aw tI tZ ad sd N S)[a]? = some (ad a, .inl (tI, len, .inl f)) := aw_at (Wk.2.2.2 a _ hS) hS
  exact va_iald C.1 C.2.1 C.2.2.2.2.2.2.2.2.1 Wk.1 a 0 he rfl hi hd (kk C Wk hL)
theorem r_zald {a len : Nat} {f : Nat → Int32} {i : Int32} (hd : decode M.2.1 pc = .ok (.baload, 1)) (hS : S a = some (.inl (true, len, f))) (hi : vp_in i len)
    (kk : Rn M (pc + 1) L (.int (f i.toNatClampNeg) :: st) N S k n out N' S') : Rn M pc L (.int i :: .ref a :: st) N S k n out N' S' := by
  intro p l e s m args below meth c D tI tZ ad sd A H locs ls C Wk hL
  have he : (aw tI tZ ad sd N S)[a]? = some (ad a, .inl (tZ, len, .inl f)) := aw_at (Wk.2.2.2 a _ hS) hS
  exact va_zald C.1 C.2.1 C.2.2.2.2.2.2.2.2.1 Wk.1 a 1 he rfl hi hd (kk C Wk hL)
theorem r_iast {a len : Nat} {f : Nat → Int32} {i x : Int32} (hd : decode M.2.1 pc = .ok (.iastore, 1)) (hS : S a = some (.inl (false, len, f))) (hi : vp_in i len)
    (kk : Rn M (pc + 1) L st N (su S a (.inl (false, len, upd f i.toNatClampNeg x))) k n out N' S') : Rn M pc L (.int x :: .int i :: .ref a :: st) N S k n out N' S' := by
  intro p l e s m args below meth c D tI tZ ad sd A H locs ls C Wk hL
  have hlt := Wk.2.2.2 a _ hS
  have he : (aw tI tZ ad sd N S)[a]? = some (ad a, .inl (tI, len, .inl f)) := aw_at hlt hS
  refine va_iast C.1 C.2.1 C.2.2.2.2.2.2.2.2.1 Wk.1 Wk.2.1 Wk.2.2.1 a 0 he rfl hi hd (fun H1 locs1 hP1 hD1 hS1 => ?_)
  have e : (aw tI tZ ad sd N S).set a (ad a, .inl (tI, len, .inl (upd f i.toNatClampNeg x))) = aw tI tZ ad sd N (su S a (.inl (false, len, upd f i.toNatClampNeg x))) := aw_set (o := .inl (false, len, upd f i.toNatClampNeg x))
  rw [e] at hP1 hD1
  exact kk C ⟨hP1, hD1, hS1, sok_su Wk.2.2.2 hlt⟩ hL
theorem r_zast {a len : Nat} {f : Nat → Int32} {i x : Int32} (hd : decode M.2.1 pc = .ok (.bastore, 1)) (hS : S a = some (.inl (true, len, f))) (hi : vp_in i len) (hx : x = 0 ∨ x = 1)
    (kk : Rn M (pc + 1) L st N (su S a (.inl (true, len, upd f i.toNatClampNeg x))) k n out N' S') : Rn M pc L (.int x :: .int i :: .ref a :: st) N S k n out N' S' := by
  intro p l e s m args below meth c D tI tZ ad sd A H locs ls C Wk hL
  have hlt := Wk.2.2.2 a _ hS
  have he : (aw tI tZ ad sd N S)[a]? = some (ad a, .inl (tZ, len, .inl f)) := aw_at hlt hS
  have hxn : vp_nar .boolean x = x := by rcases hx with rfl | rfl <;> rfl
  refine va_zast C.1 C.2.1 C.2.2.2.2.2.2.2.2.1 Wk.1 Wk.2.1 Wk.2.2.1 a 1 he rfl hi hd (fun H1 locs1 hP1 hD1 hS1 => ?_)
  rw [hxn] at hP1 hD1
  have e : (aw tI tZ ad sd N S).set a (ad a, .inl (tZ, len, .inl (upd f i.toNatClampNeg x))) = aw tI tZ ad sd N (su S a (.inl (true, len, upd f i.toNatClampNeg x))) := aw_set (o := .inl (true, len, upd f i.toNatClampNeg x))
  rw [e] at hP1 hD1
  exact kk C ⟨hP1, hD1, hS1, sok_su Wk.2.2.2 hlt⟩ hL
/-! a copied stretch -/
def CPSite (own : String) (idx : Nat) : Prop := Cond.methodLink own idx arraycopyName ∈ tb ∧ Cond.native arraycopyName ∈ tb ∧ Cond.static arraycopyName ∈ tb ∧ Cond.initialized "java/lang/System" ∈ tb
theorem r_copy {idx a0 a1 n0 n1 : Nat} {b : Bool} {f g : Nat → Int32} {sp dp ct : Int32} (hd : decode M.2.1 pc = .ok (.invokestatic idx, 3)) (hs : CPSite M.1.cls idx) (hS0 : S a0 = some (.inl (b, n0, f))) (hS1 : S a1 = some (.inl (b, n1, g)))
    (h1 : ¬ sp < 0) (h2 : ¬ dp < 0) (h3 : ¬ ct < 0) (h4 : sp.toNatClampNeg + ct.toNatClampNeg ≤ n0) (h5 : dp.toNatClampNeg + ct.toNatClampNeg ≤ n1) (hfit : b = true → ∀ j, j < n0 → f j = 0 ∨ f j = 1)
    (hR : 1 ≤ M.2.2.2.2.frames ∧ 32 ≤ M.2.2.2.2.locals) (h8 : (st.map fun v => v.category).sum ≤ 8)
    (kk : Rn M (pc + 3) L st N (su S a1 (.inl (b, n1, va_cpy f g sp.toNatClampNeg dp.toNatClampNeg ct.toNatClampNeg))) k n out N' S') : Rn M pc L (.int ct :: .int dp :: .ref a1 :: .int sp :: .ref a0 :: st) N S k n out N' S' := by
  intro p l e s m args below meth c D tI tZ ad sd A H locs ls C Wk hL
  obtain ⟨hx, hb, hml, hr, hlo, hnm, hown, hts, hK, hA, hX⟩ := id C
  have hlt := Wk.2.2.2 a1 _ hS1
  have he0 := aw_at (tI := tI) (tZ := tZ) (ad := ad) (sd := sd) (Wk.2.2.2 a0 _ hS0) hS0
  have he1 := aw_at (tI := tI) (tZ := tZ) (ad := ad) (sd := sd) hlt hS1
  have hz : (tyl tI tZ)[if b = true then 1 else 0]? = some ((if b = true then tZ else tI), (if b = true then FieldType.boolean else FieldType.int)) := by cases b <;> rfl
  refine va_copyi hx hb (by rw [hml]; exact hL.1.symm) hown (hts _ hs.1) (hts _ hs.2.1) (hts _ hs.2.2.1) (hts _ hs.2.2.2) hK Wk.1 Wk.2.1 Wk.2.2.1 a0 a1 _ _ (ty := if b = true then FieldType.boolean else FieldType.int) he0 he1 hz hz (by cases b <;> rfl) h1 h2 h3 h4 h5 (fun i hi => ?_) hR.1 ?_ hd (fun H1 locs1 hP1 hD1 hS1 => ?_)
  · cases b with
    | false => rfl
    | true =>
      show (f _ == 0 || f _ == 1) = true
      rcases hfit rfl (sp.toNatClampNeg + i) (by omega) with h | h <;> rw [h] <;> rfl
  · rw [cv_cats]
    have : nativeFrameWords "java/lang/System" "arraycopy" 5 + 11 ≤ 24 := by decide +kernel
    omega
  · have e : (aw tI tZ ad sd N S).set a1 (ad a1, .inl ((if b = true then tZ else tI), n1, .inl (va_cpy f g sp.toNatClampNeg dp.toNatClampNeg ct.toNatClampNeg))) = aw tI tZ ad sd N (su S a1 (.inl (b, n1, va_cpy f g sp.toNatClampNeg dp.toNatClampNeg ct.toNatClampNeg))) := aw_set (o := .inl (b, n1, _))
    rw [e] at hP1 hD1
    exact kk C ⟨hP1, hD1, hS1, sok_su Wk.2.2.2 hlt⟩ hL
/-! ends -/
theorem Qr_end {D : va_G} {tI tZ : ClassId} {ad sd : Nat → Nat} {A : Nat → Prop} {s t : State} {H : Heap} {locs : List Loc} {as : Array Value} {oc : Outcome} (Wk : Wd D tI tZ ad sd A N S s H locs) (ht : t.heap = H) (ho : oc = .returned (out.map (cv ad sd))) : Qr D tI tZ ad sd A N out N S as s oc t :=
  ⟨ad, Nat.le_refl _, fun _ _ => rfl, fun _ => rfl, ho, by rw [ht]; exact Wk.1, Wk.2.1, Wk.2.2.1.F ht, Wk.2.2.2⟩
theorem r_ret (hd : decode M.2.1 pc = .ok (.return_, 1)) (hr0 : M.2.2.2.1 = none) (hk : k ≤ M.2.2.2.2.cells) (hn : n ≤ M.2.2.2.2.slots) : Rn M pc L [] N S k n none N S := by
  intro p l e s m args below meth c D tI tZ ad sd A H locs ls C Wk hL
  refine W.widen hk hn ?_
  exact W.vret C.1 C.2.1 (C.2.2.2.1.trans hr0) (fun t ht hW => Qr_end Wk ht rfl) Wk.2.2.1.2.2 hd C.2.2.2.2.1
theorem r_iret {x : Int32} {ty : FieldType} (hd : decode M.2.1 pc = .ok (.ireturn, 1)) (hr0 : M.2.2.2.1 = some ty) (hx : narrow ty (.int x) = .int x) (hk : k ≤ M.2.2.2.2.cells) (hn : n ≤ M.2.2.2.2.slots) : Rn M pc L [.int x] N S k n (some (.int x)) N S := by
  intro p l e s m args below meth c D tI tZ ad sd A H locs ls C Wk hL
  refine W.widen hk hn ?_
  exact W.zret C.1 C.2.1 (C.2.2.2.1.trans hr0) hx (fun t ht hW => Qr_end Wk ht rfl) Wk.2.2.1.2.2 hd C.2.2.2.2.1
theorem r_lret {x : Int64} (hd : decode M.2.1 pc = .ok (.lreturn, 1)) (hr0 : M.2.2.2.1 = some .long) (hk : k ≤ M.2.2.2.2.cells) (hn : n ≤ M.2.2.2.2.slots) : Rn M pc L [.long x] N S k n (some (.long x)) N S := by
  intro p l e s m args below meth c D tI tZ ad sd A H locs ls C Wk hL
  refine W.widen hk hn ?_
  exact W.lret C.1 C.2.1 (C.2.2.2.1.trans hr0) (fun t ht hW => Qr_end Wk ht rfl) Wk.2.2.1.2.2 hd C.2.2.2.2.1
theorem r_aret {a : Nat} {cn : String} (hd : decode M.2.1 pc = .ok (.areturn, 1)) (hr0 : M.2.2.2.1 = some (.object cn)) (hk : k ≤ M.2.2.2.2.cells) (hn : n ≤ M.2.2.2.2.slots) : Rn M pc L [.ref a] N S k n (some (.ref a)) N S := by
  intro p l e s m args below meth c D tI tZ ad sd A H locs ls C Wk hL
  refine W.widen hk hn ?_
  exact W.aret C.1 C.2.1 (C.2.2.2.1.trans hr0) (Or.inl ⟨_, rfl⟩) (Or.inr ⟨_, rfl⟩) (fun t ht hW => Qr_end Wk ht rfl) Wk.2.2.1.2.2 hd C.2.2.2.2.1
end ROWF
/-! what is made -/
def NSite (own : String) (idx ci nf : Nat) (fs : List Value) : Prop :=
  ∃ (C : String) (T : u_T) (ty : Nat → FieldType), vwCl[ci]? = some (C, T, nf) ∧ (∀ w ∈ u_ws C T nf, w ∈ tb) ∧ (∀ k, k < nf → parseFieldDescriptor (T k).2.2.1 = some (ty k)) ∧ Cond.classLink own idx C ∈ tb ∧ Cond.instantiable C nf ∈ tb ∧ Cond.initialized C ∈ tb ∧ (∀ j, j < nf → defaultValue (ty j) = vp_V fs j) ∧ ∀ v ∈ fs, v = .int 0 ∨ v = .long 0 ∨ v = .null
section ROWN
variable {M : MI} {N k n N' : Nat} {S S' : St} {out : Option Value} {pc : Nat} {L : List (Option Value)} {st : List Value}
theorem Wd_new {D : va_G} {tI tZ : ClassId} {ad sd : Nat → Nat} {A : Nat → Prop} {s : State} {H1 : Heap} {locs : List Loc} {q : Nat} {o : Ob} (hok : sok N S) (hr : srk N S)
    (hP : va_P D vwCl (aw tI tZ ad sd N S ++ [(q, co tI tZ (fun i => if i = N then q else ad i) sd o)]) H1) (hD : va_D A (aw tI tZ ad sd N S ++ [(q, co tI tZ (fun i => if i = N then q else ad i) sd o)])) (hS : va_S A s.heap H1 locs) :
    Wd D tI tZ (fun i => if i = N then q else ad i) sd A (N + 1) (su S N o) s H1 locs := by
  have e := aw_push (tI := tI) (tZ := tZ) (ad := ad) (ad' := fun i => if i = N then q else ad i) (sd := sd) (N := N) (S := S) (o := o) (fun i hi => if_neg (by omega)) hr
  rw [show (if N = N then q else ad N) = q from if_pos rfl] at e
  rw [e] at hP hD
  refine ⟨hP, hD, hS, fun i o' hi => ?_⟩
  by_cases e2 : i = N
  · omega
  · rw [su_ne e2] at hi
    have := hok i o' hi
    omega
theorem Qr_up {D : va_G} {tI tZ : ClassId} {ad ad' sd : Nat → Nat} {A : Nat → Prop} {N1 : Nat} {as : Array Value} {s : State} {oc : Outcome} {t : State} (h1 : N ≤ N1) (h2 : ∀ i, i < N → ad' i = ad i) (h3 : N1 = N → ad' = ad) (h : Qr D tI tZ ad' sd A N1 out N' S' as s oc t) : Qr D tI tZ ad sd A N out N' S' as s oc t := by
  obtain ⟨ad2, g1, g2, g3, g4⟩ := h
  refine ⟨ad2, Nat.le_trans h1 g1, fun i hi => (g2 i (by omega)).trans (h2 i hi), fun e => ?_, g4⟩
  have e1 : N1 = N := by omega
  exact (g3 (by omega)).trans (h3 e1)
theorem MQ_up {below : List Frame} {Q Q' : Array Value → State → Outcome → State → Prop} {a : Array Value} {s : State} {mc ms : Nat} {free : Addr → Prop} (h : ∀ o t, Q a s o t → Q' a s o t) : ∀ t, MQ below Q a s mc ms free t → MQ below Q' a s mc ms free t := by
  intro t ⟨o, h1, h2, h3, h4⟩
  exact ⟨o, h1, h2, h _ _ h3, h4⟩
theorem cv_lit {ad sd : Nat → Nat} {v : Value} (h : v = .int 0 ∨ v = .long 0 ∨ v = .null) : cv ad sd v = v := by
  rcases h with rfl | rfl | rfl <;> rfl
theorem cv_lits {ad sd : Nat → Nat} {fs : List Value} (h : ∀ v ∈ fs, v = .int 0 ∨ v = .long 0 ∨ v = .null) : fs.map (cv ad sd) = fs := by
  have : fs.map (cv ad sd) = fs.map id := List.map_congr_left (fun v hv => cv_lit (h v hv))
  rw [this, List.map_id]
theorem r_new {idx ci nf : Nat} {fs : List Value} (hd : decode M.2.1 pc = .ok (.new idx, 3)) (hs : NSite M.1.cls idx ci nf fs) (hr : srk N S) (hL9 : ∀ v, some v ∈ L → vrk N v) (hs9 : ∀ v ∈ st, vrk N v) (hk : k + 1 ≤ M.2.2.2.2.cells) (hn : n + nf ≤ M.2.2.2.2.slots)
    (kk : Rn M (pc + 3) L (.ref N :: st) (N + 1) (su S N (.inr (ci, fs))) (k + 1) (n + nf) out N' S') : Rn M pc L st N S k n out N' S' := by
  intro p l e s m args below meth c D tI tZ ad sd A H locs ls C Wk hL
  obtain ⟨CC, T, ty, hc, hin, hty, w1, w2, w3, hdef, hlit⟩ := hs
  obtain ⟨hx, hb, hml, hr0, hlo, hnm, hown, hts, hK, hA, hX⟩ := id C
  refine va_new hx hb hts hin ty hty hown (hts _ w1) (hts _ w2) (hts _ w3) hK Wk.1 Wk.2.1 Wk.2.2.1 hA hc (fs := fs) hdef hk hn hd (fun q H1 hP1 hD1 hS1 => ?_)
  have ag : ∀ i, i < N → (fun i => if i = N then q else ad i) i = ad i := fun i hi => if_neg (by omega)
  have e7 : (q, (Sum.inr (ci, fs) : va_E)) = (q, co tI tZ (fun i => if i = N then q else ad i) sd (.inr (ci, fs))) := by
    show _ = (q, (Sum.inr (ci, fs.map _) : va_E))
    rw [cv_lits hlit]
  rw [e7] at hP1 hD1
  have W9 : W p l e M.2.2.2.2 s m args below meth c H1 locs (k + 1) (n + nf) (MQ below (Qr D tI tZ (fun i => if i = N then q else ad i) sd A (N + 1) out N' S') args s M.2.2.2.2.cells M.2.2.2.2.slots A) (F0 m (pc + 3) ls ((Value.ref N :: st).map (cv (fun i => if i = N then q else ad i) sd))) := kk C (Wd_new Wk.2.2.2 hr hP1 hD1 hS1) (lok_agree hL ag hL9)
  refine W.mono (MQ_up (fun o t h => Qr_up (Nat.le_succ N) ag (fun e => absurd e (by omega)) h)) ?_
  refine W.eq (g2 := _) ?_ W9
  show F0 m (pc + 3) ls (Value.ref q :: st.map (cv ad sd)) = F0 m (pc + 3) ls (Value.ref (if N = N then q else ad N) :: st.map _)
  rw [if_pos rfl, List.map_congr_left (fun v hv => cv_agree ag (hs9 v hv))]
theorem r_newa {atype : ArrayType} {b : Bool} {x : Int32} {len : Nat} (hd : decode M.2.1 pc = .ok (.newarray atype, 2)) (hb9 : newarray.typeOf atype = if b = true then .boolean else .int) (hw : Cond.arrayClass (newarray.typeOf atype) ∈ tb) (hx0 : ¬ x < 0) (hx1 : x.toNatClampNeg = len) (hx2 : len ≤ 100000)
    (hr : srk N S) (hL9 : ∀ v, some v ∈ L → vrk N v) (hs9 : ∀ v ∈ st, vrk N v) (hk : k + 1 ≤ M.2.2.2.2.cells) (hn : n + len ≤ M.2.2.2.2.slots)
    (kk : Rn M (pc + 2) L (.ref N :: st) (N + 1) (su S N (.inl (b, len, fun _ => 0))) (k + 1) (n + len) out N' S') : Rn M pc L (.int x :: st) N S k n out N' S' := by
  intro p l e s m args below meth c D tI tZ ad sd A H locs ls C Wk hL
  obtain ⟨hx, hb, hml, hr0, hlo, hnm, hown, hts, hK, hA, hX⟩ := id C
  refine va_newa hx hb (hts _ hw) hb9 hK Wk.1 Wk.2.1 Wk.2.2.1 hA (a0 := (len, .inl (fun _ => 0))) (fun cA => by cases b <;> rfl) hx0 hx1 (by cases b with
    | false => (show len * 4 ≤ 536870912; omega)
    | true => (show len * 1 ≤ 536870912; omega)) hk hn hd (fun q cA H1 hK1 hP1 hD1 hS1 => ?_)
  have ag : ∀ i, i < N → (fun i => if i = N then q else ad i) i = ad i := fun i hi => if_neg (by omega)
  have hcA : cA = if b = true then tZ else tI := by
    have h2 := (hK1.2 2 (cA, if b = true then .boolean else .int) rfl).2
    cases b with
    | false =>
      have h0 := (hK.2 0 (tI, .int) rfl).2
      exact Option.some.inj (h2.symm.trans h0)
    | true =>
      have h0 := (hK.2 1 (tZ, .boolean) rfl).2
      exact Option.some.inj (h2.symm.trans h0)
  subst hcA
  have W9 : W p l e M.2.2.2.2 s m args below meth c H1 locs (k + 1) (n + len) (MQ below (Qr D tI tZ (fun i => if i = N then q else ad i) sd A (N + 1) out N' S') args s M.2.2.2.2.cells M.2.2.2.2.slots A) (F0 m (pc + 2) ls ((Value.ref N :: st).map (cv (fun i => if i = N then q else ad i) sd))) := kk C (Wd_new (o := .inl (b, len, fun _ => 0)) Wk.2.2.2 hr hP1 hD1 hS1) (lok_agree hL ag hL9)
  refine W.mono (MQ_up (fun o t h => Qr_up (Nat.le_succ N) ag (fun e => absurd e (by omega)) h)) ?_
  refine W.eq (g2 := _) ?_ W9
  show F0 m (pc + 2) ls (Value.ref q :: st.map (cv ad sd)) = F0 m (pc + 2) ls (Value.ref (if N = N then q else ad N) :: st.map _)
  rw [if_pos rfl, List.map_congr_left (fun v hv => cv_agree ag (hs9 v hv))]
/-! Object's constructor -/
def OSite (own : String) (idx : Nat) : Prop := Cond.methodLink own idx Lib.objectInit ∈ tb ∧ Cond.instanceMethod Lib.objectInit ∈ tb ∧ Cond.code Lib.objectInit ⟨#[0xb1]⟩ 1 none ∈ tb
theorem r_obj {idx a : Nat} (hd : decode M.2.1 pc = .ok (.invokespecial idx, 3)) (hs : OSite M.1.cls idx) (hR : 1 ≤ M.2.2.2.2.frames ∧ 32 ≤ M.2.2.2.2.locals) (h8 : (st.map fun v => v.category).sum ≤ 8)
    (kk : Rn M (pc + 3) L st N S k n out N' S') : Rn M pc L (.ref a :: st) N S k n out N' S' := by
  intro p l e s m args below meth c D tI tZ ad sd A H locs ls C Wk hL
  obtain ⟨hx, hb, hml, hr0, hlo, hnm, hown, hts, hK, hA, hX⟩ := id C
  refine W.objInit hx hb hown (hts _ hs.1) (hts _ hs.2.1) (hts _ hs.2.2) rfl (by rw [hml]; exact hL.1) rfl hd hR.1 ?_ ?_
  · show 2 * 0 + ((st.map (cv ad sd)).map fun v => v.category).sum + 12 ≤ _
    rw [cv_cats]
    omega
  · exact kk C Wk hL
/-! calls -/
def BSite (M M' : MI) (idx nA mc ms : Nat) : Prop :=
  Cond.code M'.1 M'.2.1 M'.2.2.1 M'.2.2.2.1 ∈ tb ∧ Cond.initialized M'.1.cls ∈ tb ∧ (M'.1.cls ≠ "java/lang/invoke/MethodHandle" ∧ M'.1.cls ≠ "java/lang/invoke/VarHandle" ∧ (parseMethodDescriptor M'.1.desc).map (fun d => d.parameters.length) = some nA) ∧
  (M'.2.2.2.2.frames + 1 ≤ M.2.2.2.2.frames ∧ 8 + (M'.2.2.1 + 11) + M'.2.2.2.2.locals ≤ M.2.2.2.2.locals) ∧ M'.2.2.2.2.cells = mc ∧ M'.2.2.2.2.slots = ms
theorem Rn_back {p : Program} {l : Launch} {e : Env} {s : State} {m : MethodId} {args : Array Value} {below : List Frame} {meth : Method} {c : Code} {D : va_G} {tI tZ : ClassId} {ad sd : Nat → Nat} {A : Nat → Prop} {H : Heap} {locs : List Loc} {ls : Array Slot}
    (C : Cx M p s m args meth c D tI tZ sd A) (Wk : Wd D tI tZ ad sd A N S s H locs) (hL : lok ls M.2.2.1 ad sd L) {mc ms N1 : Nat} {S1 : St} {out1 : Option Value} {st0 : List Value} {rest : List Value} {as : Array Value}
    (hr : va_Run p l e M.2.2.2.2 s m args below meth c H locs k n mc ms (F0 m pc ls st0) (rest.map (cv ad sd)) (Qr D tI tZ ad sd (va_A (aw tI tZ ad sd N S) H.size) N out1 N1 S1 as) (va_A (aw tI tZ ad sd N S) H.size))
    (hN : N1 = N ∨ ((∀ v, some v ∈ L → vrk N v) ∧ ∀ v ∈ rest, vrk N v)) (kk : Rn M (pc + 3) L (out1.toList ++ rest) N1 S1 (k + mc) (n + ms) out N' S') :
    W p l e M.2.2.2.2 s m args below meth c H locs k n (MQ below (Qr D tI tZ ad sd A N out N' S') args s M.2.2.2.2.cells M.2.2.2.2.slots A) (F0 m pc ls st0) := by
  have hAA : ∀ q, va_A (aw tI tZ ad sd N S) H.size q → A q := by
    intro q hq
    rcases hq with ⟨j, e9, hj⟩ | hq
    · exact Wk.2.1.2 j _ hj
    · exact C.2.2.2.2.2.2.2.2.2.1 q (Nat.le_trans Wk.2.2.1.1 hq)
  intro T hT X
  obtain ⟨v, st₀, t, T', Lc, h0, X', hLc, e1, e2, ⟨ad', hNN, hag, hsame, hv, hP1, hD1, hF, hok1⟩, stp⟩ := hr T hT X
  have hv2 : v = out1.map (cv ad' sd) := Outcome.returned.inj hv
  have hF1 := hF.1
  have hF2 := hF.2
  rw [h0] at hF1 hF2
  have Wk1 : Wd D tI tZ ad' sd A N1 S1 s T'.heap (locs ++ Lc) := by
    refine ⟨by rw [e1]; exact hP1, hD1.weaken (fun _ _ _ h => hAA _ h), ⟨by rw [e1]; exact Nat.le_trans Wk.2.2.1.1 hF1, fun q h1 h2 => ?_, fun q hq => ?_⟩, hok1⟩
    · rw [e1, hF2 q (Nat.lt_of_lt_of_le h1 Wk.2.2.1.1) (fun z => h2 (hAA q z))]
      exact Wk.2.2.1.2.1 q h1 h2
    · rcases List.mem_append.mp hq with h | h
      · exact Wk.2.2.1.2.2 q h
      · exact hAA _ (hLc q h)
  have hL1 : lok ls M.2.2.1 ad' sd L ∧ rest.map (cv ad' sd) = rest.map (cv ad sd) := by
    rcases hN with hN | ⟨hN1, hN2⟩
    · rw [hsame hN]; exact ⟨hL, rfl⟩
    · exact ⟨lok_agree hL hag hN1, List.map_congr_left (fun v hv => cv_agree hag (hN2 v hv))⟩
  obtain ⟨t2, a1, b1⟩ := kk C Wk1 hL1.1 T' rfl X'
  have hg : ({ F0 m pc ls st0 with pc := (F0 m pc ls st0).pc + 3, stack := v.toList ++ rest.map (cv ad sd) } : JFrame) = F0 m (pc + 3) ls ((out1.toList ++ rest).map (cv ad' sd)) := by
    rw [List.map_append, hL1.2, hv2]
    cases out1 <;> rfl
  refine ⟨t2, stp t2 ?_, MQ_up (fun o t h => Qr_up hNN hag hsame h) t2 b1⟩
  rw [hg]
  exact a1
theorem Pc_blind {D : va_G} {tI tZ : ClassId} {ad sd : Nat → Nat} {sz : Nat} {As : List Value} : FrameBlind (va_Pc As (fun U => U.heap.size = sz ∧ va_P D vwCl (aw tI tZ ad sd N S) U.heap ∧ va_D (fun _ => True) (aw tI tZ ad sd N S) ∧ va_K D vwCl (tyl tI tZ) U ∧ XO sd (va_A (aw tI tZ ad sd N S) sz) U U.heap ∧ sok N S)) := by
  intro a U g mk q
  obtain ⟨q0, q1, q2, q3, q4, q5, q6⟩ := q
  exact ⟨q0, q1, q2, q3, va_K.moved (u := U) (U := U.calling g mk a) (Vm.Alike.refl U.vm) q4, q5.same rfl, q6⟩
theorem Pc_at {p : Program} {s : State} {m : MethodId} {args : Array Value} {meth : Method} {c : Code} {D : va_G} {tI tZ : ClassId} {ad sd : Nat → Nat} {A : Nat → Prop} {H : Heap} {locs : List Loc} {As : List Value}
    (C : Cx M p s m args meth c D tI tZ sd A) (Wk : Wd D tI tZ ad sd A N S s H locs) : ∀ U : State, U.heap = H → s.WarmedH U.vm → va_Pc As (fun U => U.heap.size = H.size ∧ va_P D vwCl (aw tI tZ ad sd N S) U.heap ∧ va_D (fun _ => True) (aw tI tZ ad sd N S) ∧ va_K D vwCl (tyl tI tZ) U ∧ XO sd (va_A (aw tI tZ ad sd N S) H.size) U U.heap ∧ sok N S) As.toArray U := by
  have hAA : ∀ q, va_A (aw tI tZ ad sd N S) H.size q → A q := by
    intro q hq
    rcases hq with ⟨j, e9, hj⟩ | hq
    · exact Wk.2.1.2 j _ hj
    · exact C.2.2.2.2.2.2.2.2.2.1 q (Nat.le_trans Wk.2.2.1.1 hq)
  intro U hU hW
  obtain ⟨hx, hb, hml, hr0, hlo, hnm, hown, hts, hK, hA, hX⟩ := id C
  refine ⟨rfl, by rw [hU], by rw [hU]; exact Wk.1, Wk.2.1.weaken (fun _ _ _ _ => trivial), va_K.moved hW.alike hK, ?_, Wk.2.2.2⟩
  rw [hU]
  exact ((hX.warm hW).kept (fun a h1 h2 => Wk.2.2.1.2.1 a h1 h2)).narrow hAA
def SiteS (M M' : MI) (idx nA mc ms : Nat) : Prop := BSite M M' idx nA mc ms ∧ Cond.methodLink M.1.cls idx M'.1 ∈ tb ∧ Cond.static M'.1 ∈ tb
def SiteV (M M' : MI) (idx nA mc ms : Nat) : Prop := BSite M M' idx nA mc ms ∧ Cond.methodLink M.1.cls idx M'.1 ∈ tb ∧ Cond.instanceMethod M'.1 ∈ tb ∧ Cond.selects M'.1.cls M'.1 M'.1 ∈ tb
def SiteI (M M' : MI) (idx nA mc ms : Nat) : Prop := BSite M M' idx nA mc ms ∧ M'.2.2.2.1 = none ∧ M'.1.name = "<init>" ∧ Cond.instanceMethod M'.1 ∈ tb ∧ Cond.methodLink M.1.cls idx M'.1 ∈ tb
def SiteIN (M M' : MI) (idx nA mc ms : Nat) (host : String) : Prop := BSite M M' idx nA mc ms ∧ M'.2.2.2.1 = none ∧ M'.1.name = "<init>" ∧ Cond.instanceMethod M'.1 ∈ tb ∧ Cond.methodLinkNest M.1.cls idx M'.1 host ∈ tb
theorem callB_at {p : Program} {s : State} {m : MethodId} {args : Array Value} {meth : Method} {c : Code} {D : va_G} {tI tZ : ClassId} {sd : Nat → Nat} {A : Nat → Prop} {M' : MI} {idx nA mc ms : Nat}
    (C : Cx M p s m args meth c D tI tZ sd A) (hB : BSite M M' idx nA mc ms) (hl : Cond.methodLink M.1.cls idx M'.1 ∈ tb) : CallB M.2.2.2.2 s args M.1.cls idx M'.1 M'.2.1 M'.2.2.1 M'.2.2.2.1 (wsM M') M'.2.2.2.2 mc ms nA := by
  have hts := C.2.2.2.2.2.2.2.1
  obtain ⟨w1, w2, w3, w4, w5, w6⟩ := hB
  exact callB_of nA hts (tb_gc w1) rfl w5 w6 (hts _ w2) (hts _ hl) w3 w4
theorem r_callS {M' : MI} {idx nA mc ms N1 : Nat} {S1 : St} {as rest : List Value} {out1 : Option Value} (hd : decode M.2.1 pc = .ok (.invokestatic idx, 3)) (hs : SiteS M M' idx nA mc ms) (hm : Mt M' as N S out1 N1 S1) (hst : st = as.reverse ++ rest) (hn : as.length = nA)
    (h8 : (rest.map fun v => v.category).sum ≤ 8) (hN : N1 = N ∨ ((∀ v, some v ∈ L → vrk N v) ∧ ∀ v ∈ rest, vrk N v)) (hkn : k + mc ≤ M.2.2.2.2.cells ∧ n + ms ≤ M.2.2.2.2.slots)
    (kk : Rn M (pc + 3) L (out1.toList ++ rest) N1 S1 (k + mc) (n + ms) out N' S') : Rn M pc L st N S k n out N' S' := by
  subst hst
  intro p l e s m args below meth c D tI tZ ad sd A H locs ls C Wk hL
  obtain ⟨hx, hb, hml, hr0, hlo, hnm, hown, hts, hK, hA, hX⟩ := id C
  obtain ⟨hB, wl, w1⟩ := hs
  have hM := hm l D tI tZ ad sd H.size
  rw [hB.2.2.2.2.1, hB.2.2.2.2.2] at hM
  refine Rn_back C Wk hL (va_runS (As := as.map (cv ad sd)) ⟨hx, hb, hml, hown, hts⟩ hM ⟨callB_at C hB wl, hts _ w1⟩ ⟨Pc_blind, Pc_at C Wk⟩ rfl (by rw [List.length_map]; exact hn) hL.1 (by simp) (lv_room (by rw [cv_cats]; exact h8)) hd hkn) hN kk
theorem r_callV {M' : MI} {idx nA mc ms N1 ci b : Nat} {S1 : St} {as rest fs : List Value} {out1 : Option Value} (hd : decode M.2.1 pc = .ok (.invokevirtual idx, 3)) (hs : SiteV M M' idx nA mc ms) (hm : Mt M' (.ref b :: as) N S out1 N1 S1) (hst : st = as.reverse ++ .ref b :: rest) (hn : as.length = nA)
    (hb9 : S b = some (.inr (ci, fs))) (hci : ∃ q, vwCl[ci]? = some q ∧ q.1 = M'.1.cls) (h8 : (rest.map fun v => v.category).sum ≤ 8) (hN : N1 = N ∨ ((∀ v, some v ∈ L → vrk N v) ∧ ∀ v ∈ rest, vrk N v)) (hkn : k + mc ≤ M.2.2.2.2.cells ∧ n + ms ≤ M.2.2.2.2.slots)
    (kk : Rn M (pc + 3) L (out1.toList ++ rest) N1 S1 (k + mc) (n + ms) out N' S') : Rn M pc L st N S k n out N' S' := by
  subst hst
  intro p l e s m args below meth c D tI tZ ad sd A H locs ls C Wk hL
  obtain ⟨hx, hb, hml, hr0, hlo, hnm, hown, hts, hK, hA, hX⟩ := id C
  obtain ⟨hB, wl, w1, w2⟩ := hs
  obtain ⟨q, hq1, hq2⟩ := hci
  have hM := hm l D tI tZ ad sd H.size
  rw [hB.2.2.2.2.1, hB.2.2.2.2.2] at hM
  have he := aw_at (tI := tI) (tZ := tZ) (ad := ad) (sd := sd) (Wk.2.2.2 b _ hb9) hb9
  have hrc := va_recv hK Wk.1 hq1 he
  rw [hq2] at hrc
  refine Rn_back C Wk hL (va_runV (As := as.map (cv ad sd)) (b := ad b) ⟨hx, hb, hml, hown, hts⟩ hM ⟨callB_at C hB wl, hts _ w1, hts _ w2⟩ ⟨Pc_blind, hrc, Pc_at C Wk⟩ rfl (by rw [List.length_map]; exact hn) hL.1 (by simp [cv]) (lv_room (by rw [cv_cats]; exact h8)) hd hkn) hN kk
theorem r_callI {M' : MI} {idx nA mc ms N1 b : Nat} {S1 : St} {as rest : List Value} (hd : decode M.2.1 pc = .ok (.invokespecial idx, 3)) (hs : SiteI M M' idx nA mc ms) (hm : Mt M' (.ref b :: as) N S none N1 S1) (hst : st = as.reverse ++ .ref b :: rest) (hn : as.length = nA)
    (h8 : (rest.map fun v => v.category).sum ≤ 8) (hN : N1 = N ∨ ((∀ v, some v ∈ L → vrk N v) ∧ ∀ v ∈ rest, vrk N v)) (hkn : k + mc ≤ M.2.2.2.2.cells ∧ n + ms ≤ M.2.2.2.2.slots)
    (kk : Rn M (pc + 3) L rest N1 S1 (k + mc) (n + ms) out N' S') : Rn M pc L st N S k n out N' S' := by
  subst hst
  intro p l e s m args below meth c D tI tZ ad sd A H locs ls C Wk hL
  obtain ⟨hx, hb, hml, hr0, hlo, hnm, hown, hts, hK, hA, hX⟩ := id C
  obtain ⟨hB, w0, w1, w2, wl⟩ := hs
  have hM := hm l D tI tZ ad sd H.size
  rw [hB.2.2.2.2.1, hB.2.2.2.2.2] at hM
  have hCB := callB_at C hB wl
  rw [w0] at hCB
  refine Rn_back (out1 := none) C Wk hL (va_runI (As := as.map (cv ad sd)) (b := ad b) ⟨hx, hb, hml, hown, hts⟩ hM ⟨hCB, w1, hts _ w2⟩ ⟨Pc_blind, Pc_at C Wk⟩ rfl (by rw [List.length_map]; exact hn) hL.1 (by simp [cv]) (lv_room (by rw [cv_cats]; exact h8)) hd hkn) hN kk
theorem r_callIN {M' : MI} {idx nA mc ms N1 b : Nat} {S1 : St} {as rest : List Value} {host : String} (hd : decode M.2.1 pc = .ok (.invokespecial idx, 3)) (hs : SiteIN M M' idx nA mc ms host) (hm : Mt M' (.ref b :: as) N S none N1 S1) (hst : st = as.reverse ++ .ref b :: rest) (hn : as.length = nA)
    (h8 : (rest.map fun v => v.category).sum ≤ 8) (hN : N1 = N ∨ ((∀ v, some v ∈ L → vrk N v) ∧ ∀ v ∈ rest, vrk N v)) (hkn : k + mc ≤ M.2.2.2.2.cells ∧ n + ms ≤ M.2.2.2.2.slots)
    (kk : Rn M (pc + 3) L rest N1 S1 (k + mc) (n + ms) out N' S') : Rn M pc L st N S k n out N' S' := by
  subst hst
  intro p l e s m args below meth c D tI tZ ad sd A H locs ls C Wk hL
  obtain ⟨hx, hb, hml, hr0, hlo, hnm, hown, hts, hK, hA, hX⟩ := id C
  obtain ⟨⟨v1, v2, v3, v4, v5, v6⟩, w0, w1, w2, wl⟩ := hs
  have hM := hm l D tI tZ ad sd H.size
  rw [v5, v6] at hM
  have hlN : va_Nw (.methodLinkNest M.1.cls idx M'.1 host) s := va_tabs (by rfl) rfl (hts _ wl)
  have hCN : va_CN M.2.2.2.2 s args M.1.cls idx M'.1 host M'.2.1 M'.2.2.1 M'.2.2.2.1 (wsM M') M'.2.2.2.2 mc ms nA := va_cnB nA hts (tb_gc v1) rfl v5 v6 hlN (hts _ v2) v3 v4
  rw [w0] at hCN
  refine Rn_back (out1 := none) C Wk hL (va_runIN (As := as.map (cv ad sd)) (b := ad b) ⟨hx, hb, hml, hown, hts⟩ hM ⟨hCN, w1, hts _ w2⟩ ⟨Pc_blind, Pc_at C Wk⟩ rfl (by rw [List.length_map]; exact hn) hL.1 (by simp [cv]) (lv_room (by rw [cv_cats]; exact h8)) hd hkn) hN kk
/-! a call of what a subclass may have made anew: x is named, y runs, owner declares x -/
def SiteU (M M' : MI) (idx nA mc ms : Nat) (C owner : String) (x : MethodName) : Prop := BSite M M' idx nA mc ms ∧ Cond.methodLink M.1.cls idx x ∈ tb ∧ Cond.sameMethod x.cls owner x.name x.desc ∈ tb ∧ (owner ≠ "java/lang/invoke/MethodHandle" ∧ owner ≠ "java/lang/invoke/VarHandle") ∧ (parseMethodDescriptor x.desc).map (fun d => d.parameters.length) = some nA ∧
  Cond.instanceMethod ⟨owner, x.name, x.desc⟩ ∈ tb ∧ (∃ (b0 : ByteArray) (m0 : Nat) (r0 : Option FieldType), Cond.code ⟨owner, x.name, x.desc⟩ b0 m0 r0 ∈ tb) ∧ Cond.selects C x M'.1 ∈ tb ∧ Cond.instanceMethod M'.1 ∈ tb
theorem r_callU {M' : MI} {idx nA mc ms N1 ci b : Nat} {S1 : St} {as rest fs : List Value} {out1 : Option Value} {CC owner : String} {x : MethodName} (hd : decode M.2.1 pc = .ok (.invokevirtual idx, 3)) (hs : SiteU M M' idx nA mc ms CC owner x) (hm : Mt M' (.ref b :: as) N S out1 N1 S1) (hst : st = as.reverse ++ .ref b :: rest) (hn : as.length = nA)
    (hb9 : S b = some (.inr (ci, fs))) (hci : ∃ q, vwCl[ci]? = some q ∧ q.1 = CC) (h8 : (rest.map fun v => v.category).sum ≤ 8) (hN : N1 = N ∨ ((∀ v, some v ∈ L → vrk N v) ∧ ∀ v ∈ rest, vrk N v)) (hkn : k + mc ≤ M.2.2.2.2.cells ∧ n + ms ≤ M.2.2.2.2.slots)
    (kk : Rn M (pc + 3) L (out1.toList ++ rest) N1 S1 (k + mc) (n + ms) out N' S') : Rn M pc L st N S k n out N' S' := by
  subst hst
  intro p l e s m args below meth c D tI tZ ad sd A H locs ls C Wk hL
  obtain ⟨hx, hb, hml, hr0, hlo, hnm, hown, hts, hK, hA, hX⟩ := id C
  obtain ⟨⟨v1, v2, v3, v4, v5, v6⟩, wl, w1, w2, w3, w4, ⟨b0, m0, r0, w5⟩, w6, w7⟩ := hs
  obtain ⟨q, hq1, hq2⟩ := hci
  have hM := hm l D tI tZ ad sd H.size
  rw [v5, v6] at hM
  have he := aw_at (tI := tI) (tZ := tZ) (ad := ad) (sd := sd) (Wk.2.2.2 b _ hb9) hb9
  have hrc := va_recv hK Wk.1 hq1 he
  rw [hq2] at hrc
  have hG : GoodIn tb (va_wsO M.1.cls idx CC owner x M'.1 (wsM M')) := by
    intro w hw
    unfold va_wsO at hw
    rcases List.mem_append.mp hw with h | h
    · simp only [List.mem_cons, List.not_mem_nil, or_false] at h
      rcases h with rfl | rfl | rfl | rfl | rfl | rfl
      · exact tb_gd _ wl
      · exact tb_gd _ w1
      · exact tb_gd _ w4
      · exact tb_gd _ w6
      · exact tb_gd _ w7
      · exact tb_gd _ v2
    · exact tb_gc v1 _ h
  refine Rn_back C Wk hL (va_runU (As := as.map (cv ad sd)) (b := ad b) ⟨hx, hb, hml, hown, hts⟩ hM (va_cwO nA hts hG rfl v5 v6 w5 ⟨w2.1, w2.2, w3⟩ v4) ⟨Pc_blind, hrc, Pc_at C Wk⟩ rfl (by rw [List.length_map]; exact hn) hL.1 (by simp [cv]) (lv_room (by rw [cv_cats]; exact h8)) hd hkn) hN kk
/-! super -/
def SiteSU (M M' : MI) (idx nA mc ms : Nat) : Prop := BSite M M' idx nA mc ms ∧ M'.1.name ≠ "<init>" ∧ Cond.methodLink M.1.cls idx M'.1 ∈ tb ∧ Cond.sameMethod M'.1.cls M'.1.cls M'.1.name M'.1.desc ∈ tb ∧ Cond.superclass M.1.cls M'.1.cls ∈ tb ∧ Cond.instanceMethod M'.1 ∈ tb
theorem r_callSU {M' : MI} {idx nA mc ms N1 ci b : Nat} {S1 : St} {as rest fs : List Value} {out1 : Option Value} (hd : decode M.2.1 pc = .ok (.invokespecial idx, 3)) (hs : SiteSU M M' idx nA mc ms) (hm : Mt M' (.ref b :: as) N S out1 N1 S1) (hst : st = as.reverse ++ .ref b :: rest) (hn : as.length = nA)
    (hb9 : S b = some (.inr (ci, fs))) (hci : ∃ q, vwCl[ci]? = some q) (h8 : (rest.map fun v => v.category).sum ≤ 8) (hN : N1 = N ∨ ((∀ v, some v ∈ L → vrk N v) ∧ ∀ v ∈ rest, vrk N v)) (hkn : k + mc ≤ M.2.2.2.2.cells ∧ n + ms ≤ M.2.2.2.2.slots)
    (kk : Rn M (pc + 3) L (out1.toList ++ rest) N1 S1 (k + mc) (n + ms) out N' S') : Rn M pc L st N S k n out N' S' := by
  subst hst
  intro p l e s m args below meth c D tI tZ ad sd A H locs ls C Wk hL
  obtain ⟨hx, hb, hml, hr0, hlo, hnm, hown, hts, hK, hA, hX⟩ := id C
  obtain ⟨⟨v1, v2, v3, v4, v5, v6⟩, w0, wl, w1, w2, w3⟩ := hs
  obtain ⟨q, hq1⟩ := hci
  have hM := hm l D tI tZ ad sd H.size
  rw [v5, v6] at hM
  have he := aw_at (tI := tI) (tZ := tZ) (ad := ad) (sd := sd) (Wk.2.2.2 b _ hb9) hb9
  have hrc := va_recv hK Wk.1 hq1 he
  have hG : GoodIn tb (va_wsSU M.1.cls idx M'.1 (wsM M')) := by
    intro w hw
    unfold va_wsSU at hw
    rcases List.mem_append.mp hw with h | h
    · simp only [List.mem_cons, List.not_mem_nil, or_false] at h
      rcases h with rfl | rfl | rfl | rfl | rfl
      · exact tb_gd _ wl
      · exact tb_gd _ w1
      · exact tb_gd _ w2
      · exact tb_gd _ w3
      · exact tb_gd _ v2
    · exact tb_gc v1 _ h
  refine Rn_back C Wk hL (va_runSU (As := as.map (cv ad sd)) (b := ad b) (hK.1 ci q hq1).2 ⟨hx, hb, hml, hown, hts⟩ hM (va_cwSU nA hts hG rfl v5 v6 ⟨w0, v3.2.2⟩ v4) ⟨Pc_blind, hrc, Pc_at C Wk⟩ rfl (by rw [List.length_map]; exact hn) hL.1 (by simp [cv]) (lv_room (by rw [cv_cats]; exact h8)) hd hkn) hN kk
end ROWN
end
