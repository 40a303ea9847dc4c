/-! ===== text constants ===== -/
theorem ws_38 : Cond.fieldLink "java/lang/String" (38 : Nat) "java/lang/String" "COMPACT_STRINGS" "Z" ∈ tb := tb_t2 (show tables_1_2[164]? = some _ from rfl) rfl
theorem ws_1053 : Cond.fieldLink "java/lang/String" (1053 : Nat) "jdk/internal/util/Preconditions" "SIOOBE_FORMATTER" "Ljava/util/function/BiFunction;" ∈ tb := tb_t2 (show tables_1_2[180]? = some _ from rfl) rfl
theorem ws_9 : Cond.fieldLink "java/lang/String" (9 : Nat) "java/lang/String" "value" "[B" ∈ tb := tb_t5 (show tables_1_5[231]? = some _ from rfl) rfl
theorem ws_15 : Cond.fieldLink "java/lang/String" (15 : Nat) "java/lang/String" "coder" "B" ∈ tb := tb_t5 (show tables_1_5[232]? = some _ from rfl) rfl
theorem ws_l3 : Cond.methodLink "java/lang/String" (1059 : Nat) ({ cls := "jdk/internal/util/Preconditions", name := "checkIndex", desc := "(IILjava/util/function/BiFunction;)I" } : Jvm.MethodName) ∈ tb := tb_t2 (show tables_1_2[182]? = some _ from rfl) rfl
theorem ws_s3 : Cond.static ({ cls := "jdk/internal/util/Preconditions", name := "checkIndex", desc := "(IILjava/util/function/BiFunction;)I" } : Jvm.MethodName) ∈ tb := tb_t2 (show tables_1_2[183]? = some _ from rfl) rfl
theorem ws_c3 : Cond.code ({ cls := "jdk/internal/util/Preconditions", name := "checkIndex", desc := "(IILjava/util/function/BiFunction;)I" } : Jvm.MethodName) prog_22_method_11_code (3 : Nat) (some FieldType.int) ∈ tb := tb_t2 (show tables_1_2[184]? = some _ from rfl) rfl
theorem ws_i3 : Cond.initialized "jdk/internal/util/Preconditions" ∈ tb := tb_t1 (show tables_1_1[17]? = some _ from rfl) rfl
def M_J3_checkIndex_8e157 : MI := (yJ3_checkIndex_8e157, cJ3_checkIndex_8e157, 3, (Option.some FieldType.int), { frames := 0, cells := 0, slots := 0, locals := 0 })
theorem nh_J3 : (RJ3 ≠ "java/lang/invoke/MethodHandle") ∧ (RJ3 ≠ "java/lang/invoke/VarHandle") := ⟨by decide +kernel, by decide +kernel⟩
theorem pd_J3_checkIndex : (parseMethodDescriptor M_J3_checkIndex_8e157.1.desc).map (fun d => d.parameters.length) = some 3 := by decide +kernel
theorem s_J0_checkIndex_1059 : SiteS M_J0_checkIndex_df160 M_J3_checkIndex_8e157 1059 3 0 0 := ⟨⟨ws_c3, ws_i3, ⟨nh_J3.1, nh_J3.2, pd_J3_checkIndex⟩, ⟨Nat.le_of_ble_eq_true rfl, Nat.le_of_ble_eq_true rfl⟩, rfl, rfl⟩, ws_l3, ws_s3⟩
theorem pf_J3_checkIndex : plainFor M_J3_checkIndex_8e157.1 = true := by decide +kernel
abbrev strL : List (List Int32) := [[114, 111, 97, 100], [99, 104, 105, 108, 100]]
def q_ch (u j : Nat) : Nat := (if u = 0 then [114, 111, 97, 100] else [99, 104, 105, 108, 100]).getD j 0
def q_sl (u : Nat) : Nat := if u = 0 then 4 else 5
theorem ch_t : ∀ u, u < 2 → ∀ j, j < 5 → (strL.getD u []).getD j 0 = iI (q_ch u j : Int) ∧ q_ch u j &&& 255 = q_ch u j ∧ ((iI (q_ch u j : Int)).toUInt32 % 65536).toInt32 = iI (q_ch u j : Int) ∧ narrow .char (.int (iI (q_ch u j : Int))) = .int (iI (q_ch u j : Int)) ∧ q_ch u j < 256 := by decide +kernel
theorem sl_t : ∀ u, u < 2 → ([4, 5] : List Nat).getD u 0 = q_sl u ∧ q_sl u ≤ 5 ∧ 4 ≤ q_sl u := by decide +kernel
section StrRows
variable {M : MI} {N k n N' : Nat} {S S' : St} {out : Option Value} {pc : Nat} {L : List (Option Value)} {st : List Value}
theorem r_ldcS {u : UInt32} {i : Nat} {tx : String} (hd : decode M.2.1 pc = .ok (.ldc i, 2)) (hR : ∀ {sd : Nat → Nat} {A : Nat → Prop} {U : State} {H : Heap}, XO sd A U H → vk_R M.1.cls i tx (sd u.toNat) U)
    (kk : Rn M (pc + 2) L (.float u :: st) N S k n out N' S') : Rn M pc L st N S k n out N' S' := by
  intro p l e s m args below meth c D tI tZ ad sd A H locs ls C Wk hL
  exact va_ldcS C.1 C.2.1 C.2.2.2.2.2.2.1 (hR C.2.2.2.2.2.2.2.2.2.2) hd (kk C Wk hL)
theorem r_gets38 (hd : decode M.2.1 pc = .ok (.getstatic 38, 3)) (hc : M.1.cls = "java/lang/String")
    (kk : Rn M (pc + 3) L (.int 1 :: st) N S k n out N' S') : Rn M pc L st N S k n out N' S' := by
  intro p l e s m args below meth c D tI tZ ad sd A H locs ls C Wk hL
  exact va_gets C.1 C.2.1 C.2.2.2.2.2.2.2.2.2.2.2.1.1 Wk.2.2.1 (by rw [← hc]; exact C.2.2.2.2.2.2.1) (C.2.2.2.2.2.2.2.1 _ ws_38) (fun _ h => h) hd (kk C Wk hL)
theorem r_getsio (hd : decode M.2.1 pc = .ok (.getstatic 1053, 3)) (hc : M.1.cls = "java/lang/String")
    (k1 : Rn M (pc + 3) L (.null :: st) N S k n out N' S') (k2 : Rn M (pc + 3) L (.float 200 :: st) N S k n out N' S') : Rn M pc L st N S k n out N' S' := by
  intro p l e s m args below meth c D tI tZ ad sd A H locs ls C Wk hL
  rcases C.2.2.2.2.2.2.2.2.2.2.2.1.2 with h | h
  · exact va_gets C.1 C.2.1 h Wk.2.2.1 (by rw [← hc]; exact C.2.2.2.2.2.2.1) (C.2.2.2.2.2.2.2.1 _ ws_1053) (fun _ h => h) hd (k1 C Wk hL)
  · exact va_gets C.1 C.2.1 h Wk.2.2.1 (by rw [← hc]; exact C.2.2.2.2.2.2.1) (C.2.2.2.2.2.2.2.1 _ ws_1053) (fun _ h => h) hd (k2 C Wk hL)
theorem r_sgetv {u v : UInt32} (hu : u.toNat < 2) (hv : v.toNat = u.toNat + 100) (hd : decode M.2.1 pc = .ok (.getfield 9, 3)) (hc : M.1.cls = "java/lang/String")
    (kk : Rn M (pc + 3) L (.float v :: st) N S k n out N' S') : Rn M pc L (.float u :: st) N S k n out N' S' := by
  intro p l e s m args below meth c D tI tZ ad sd A H locs ls C Wk hL
  refine vk_getf C.1 C.2.1 (C.2.2.2.2.2.2.2.2.2.2.1.1 u.toNat hu).2.2.1 Wk.2.2.1 (by rw [← hc]; exact C.2.2.2.2.2.2.1) (C.2.2.2.2.2.2.2.1 _ ws_9) (fun _ h => h) hd ?_
  rw [show Value.ref (sd (u.toNat + 100)) = cv ad sd (.float v) from by show _ = Value.ref (sd v.toNat); rw [hv]]
  exact kk C Wk hL
theorem r_sgetc {u : UInt32} (hu : u.toNat < 2) (hd : decode M.2.1 pc = .ok (.getfield 15, 3)) (hc : M.1.cls = "java/lang/String")
    (kk : Rn M (pc + 3) L (.int 0 :: st) N S k n out N' S') : Rn M pc L (.float u :: st) N S k n out N' S' := by
  intro p l e s m args below meth c D tI tZ ad sd A H locs ls C Wk hL
  exact vk_getf C.1 C.2.1 (C.2.2.2.2.2.2.2.2.2.2.1.1 u.toNat hu).2.1 Wk.2.2.1 (by rw [← hc]; exact C.2.2.2.2.2.2.1) (C.2.2.2.2.2.2.2.1 _ ws_15) (fun _ h => h) hd (kk C Wk hL)
theorem r_sblen {v : UInt32} (i : Nat) (hi : i < 2) (hv : v.toNat = i + 100) (hd : decode M.2.1 pc = .ok (.arraylength, 1))
    (kk : Rn M (pc + 1) L (.int (Int32.ofNat (q_sl i)) :: st) N S k n out N' S') : Rn M pc L (.float v :: st) N S k n out N' S' := by
  intro p l e s m args below meth c D tI tZ ad sd A H locs ls C Wk hL
  rw [List.map_cons, show cv ad sd (.float v) = .ref (sd (i + 100)) from by show Value.ref (sd v.toNat) = _; rw [hv]]
  exact va_tlen C.1 C.2.1 (C.2.2.2.2.2.2.2.2.2.2.1.1 i hi).2.2.2 Wk.2.2.1 (by rw [(sl_t i hi).1]) hd (kk C Wk hL)
theorem r_sbld {v : UInt32} {x : Int32} (i : Nat) (hi : i < 2) (hv : v.toNat = i + 100) (hin : vp_in x (q_sl i)) (hd : decode M.2.1 pc = .ok (.baload, 1))
    (kk : Rn M (pc + 1) L (.int ((strL.getD i []).getD x.toNatClampNeg 0) :: st) N S k n out N' S') : Rn M pc L (.int x :: .float v :: st) N S k n out N' S' := by
  intro p l e s m args below meth c D tI tZ ad sd A H locs ls C Wk hL
  rw [List.map_cons, List.map_cons, show cv ad sd (.float v) = .ref (sd (i + 100)) from by show Value.ref (sd v.toNat) = _; rw [hv]]
  exact va_tb C.1 C.2.1 (C.2.2.2.2.2.2.2.2.2.2.1.1 i hi).2.2.2 Wk.2.2.1 (by rw [(sl_t i hi).1]; exact hin) rfl hd (kk C Wk hL)
theorem r_i2c {x : Int32} (hd : decode M.2.1 pc = .ok (.i2c, 1)) (hx : (x.toUInt32 % 65536).toInt32 = x)
    (kk : Rn M (pc + 1) L (.int x :: st) N S k n out N' S') : Rn M pc L (.int x :: st) N S k n out N' S' := by
  intro p l e s m args below meth c D tI tZ ad sd A H locs ls C Wk hL
  exact lv_i2c C.1 C.2.1 hd hx (kk C Wk hL)
theorem r_callVs {M' : MI} {idx nA mc ms N1 : Nat} {u : UInt32} {S1 : St} {as rest : List Value} {out1 : Option Value} (hd : decode M.2.1 pc = .ok (.invokevirtual idx, 3)) (hs : SiteV M M' idx nA mc ms) (hm : Mt M' (.float u :: as) N S out1 N1 S1) (hst : st = as.reverse ++ .float u :: rest) (hn : as.length = nA)
    (hu : u.toNat < 2) (hc : M'.1.cls = "java/lang/String") (h8 : (rest.map fun v => v.category).sum ≤ 8) (hN : N1 = N ∨ ((∀ v, some v ∈ L → vrk N v) ∧ ∀ v ∈ rest, vrk N v)) (hkn : k + mc ≤ M.2.2.2.2.cells ∧ n + ms ≤ M.2.2.2.2.slots)
    (kk : Rn M (pc + 3) L (out1.toList ++ rest) N1 S1 (k + mc) (n + ms) out N' S') : Rn M pc L st N S k n out N' S' := by
  subst hst
  intro p l e s m args below meth c D tI tZ ad sd A H locs ls C Wk hL
  obtain ⟨hx, hb, hml, hr0, hlo, hnm, hown, hts, hK, hA, hX⟩ := id C
  obtain ⟨hB, wl, w1, w2⟩ := hs
  have hM := hm l D tI tZ ad sd H.size
  rw [hB.2.2.2.2.1, hB.2.2.2.2.2] at hM
  have hrc := vk_recv hX.1 hu Wk.2.2.1
  rw [← hc] at hrc
  refine Rn_back C Wk hL (va_runV (As := as.map (cv ad sd)) (b := sd u.toNat) ⟨hx, hb, hml, hown, hts⟩ hM ⟨callB_at C hB wl, hts _ w1, hts _ w2⟩ ⟨Pc_blind, hrc, Pc_at C Wk⟩ rfl (by rw [List.length_map]; exact hn) hL.1 (by simp [cv]) (lv_room (by rw [cv_cats]; exact h8)) hd hkn) hN kk
end StrRows
section StrK
variable {M : MI} {pc : Nat} {L : List (Option Value)} {st : List Value} {G : Mem} {Post : Option Value → Mem → Prop}
theorem k_gets38 (hd : decode M.2.1 pc = .ok (.getstatic 38, 3)) (hc : M.1.cls = "java/lang/String") (kk : RP M (pc + 3) L (.int (iI 1) :: st) G Post) : RP M pc L st G Post := kk.step (fun o g h => r_gets38 hd hc h)
theorem k_sgetv {u v : UInt32} (hu : u.toNat < 2) (hv : v.toNat = u.toNat + 100) (hd : decode M.2.1 pc = .ok (.getfield 9, 3)) (hc : M.1.cls = "java/lang/String") (kk : RP M (pc + 3) L (.float v :: st) G Post) : RP M pc L (.float u :: st) G Post := kk.step (fun o g h => r_sgetv hu hv hd hc h)
theorem k_sgetc {u : UInt32} (hu : u.toNat < 2) (hd : decode M.2.1 pc = .ok (.getfield 15, 3)) (hc : M.1.cls = "java/lang/String") (kk : RP M (pc + 3) L (.int (iI 0) :: st) G Post) : RP M pc L (.float u :: st) G Post := kk.step (fun o g h => r_sgetc hu hd hc h)
theorem k_sblen {v : UInt32} (i : Nat) (hi : i < 2) (hv : v.toNat = i + 100) (hd : decode M.2.1 pc = .ok (.arraylength, 1)) (kk : RP M (pc + 1) L (.int (iI (q_sl i : Int)) :: st) G Post) : RP M pc L (.float v :: st) G Post := kk.step (fun o g h => r_sblen i hi hv hd (by rw [iI_nat] at h; exact h))
theorem k_sbld {v : UInt32} {x : Int} (i j : Nat) (hi : i < 2) (hv : v.toNat = i + 100) (hx : x = j) (hj : j < q_sl i) (hd : decode M.2.1 pc = .ok (.baload, 1)) (kk : RP M (pc + 1) L (.int (iI (q_ch i j : Int)) :: st) G Post) : RP M pc L (.int (iI x) :: .float v :: st) G Post := by
  have h5 := (sl_t i hi).2.1
  refine kk.step (fun o g h => r_sbld i hi hv (vp_iI hx hj (by omega)) hd (by rw [cl_iI hx hj (by omega), (ch_t i hi j (by omega)).1]; exact h))
theorem k_i2c {x : Int} (hd : decode M.2.1 pc = .ok (.i2c, 1)) (hx : ((iI x).toUInt32 % 65536).toInt32 = iI x) (kk : RP M (pc + 1) L (.int (iI x) :: st) G Post) : RP M pc L (.int (iI x) :: st) G Post := kk.step (fun o g h => r_i2c hd hx h)
theorem k_nret {x : Int} (ty : FieldType) (hd : decode M.2.1 pc = .ok (.ireturn, 1)) (hr0 : M.2.2.2.1 = some ty) (hx : narrow ty (.int (iI x)) = .int (iI x)) (hp : Post (some (.int (iI x))) G) : RP M pc L [.int (iI x)] G Post := ⟨_, G, hp, r_iret hd hr0 hx (Nat.zero_le _) (Nat.zero_le _)⟩
theorem k_callVsi {M' : MI} {idx nA : Nat} {u : UInt32} {rest : List Value} {Q : Int → Mem → Prop} (as : List Value) (hd : decode M.2.1 pc = .ok (.invokevirtual idx, 3)) (hs : SiteV M M' idx nA 0 0) (hst : st = as.reverse ++ .float u :: rest) (hm : MP M' (.float u :: as) G (vi Q)) (hn : as.length = nA) (hu : u.toNat < 2) (hc : M'.1.cls = "java/lang/String") (h8 : (rest.map fun v => v.category).sum ≤ 8)
    (kk : ∀ v G1, Q v G1 → RP M (pc + 3) L (.int (iI v) :: rest) G1 Post) : RP M pc L st G Post := by
  obtain ⟨o1, G1, ⟨v, rfl, hq⟩, h2⟩ := hm
  obtain ⟨o, g, h1, h3⟩ := kk v G1 hq
  exact ⟨o, g, h1, r_callVs hd hs h2 hst hn hu hc h8 (Or.inl rfl) ⟨Nat.zero_le _, Nat.zero_le _⟩ h3⟩
theorem k_ldcS0 (hd : decode M.2.1 pc = .ok (.ldc 33, 2)) (hc : M.1.cls = RX7) (kk : RP M (pc + 2) L (.float 0 :: st) G Post) : RP M pc L st G Post := kk.step (fun o g h => r_ldcS (u := 0) hd (fun q => by rw [hc]; exact q.2.2.1) h)
theorem k_ldcS1 (hd : decode M.2.1 pc = .ok (.ldc 52, 2)) (hc : M.1.cls = RX7) (kk : RP M (pc + 2) L (.float 1 :: st) G Post) : RP M pc L st G Post := kk.step (fun o g h => r_ldcS (u := 1) hd (fun q => by rw [hc]; exact q.2.2.2.1) h)
end StrK
theorem m_coder {G : Mem} {u : UInt32} (hu : u.toNat < 2) : MP M_J0_coder_7d493 [.float u] G (vx 0 G) := by
  refine MP.of [some (.float u)] pf_J0_coder_7d493 (Nat.le_of_ble_eq_true rfl) rfl ?_
  refine k_gets38 dJ0_coder_7d493_0 rfl ?_
  refine k_if_eq 13 dJ0_coder_7d493_3 (by decide) ⟨by decide, by decide⟩ (fun h => absurd h (by decide)) (fun _ => ?_)
  refine k_sload_n dJ0_coder_7d493_6 rfl ?_
  refine k_sgetc hu dJ0_coder_7d493_7 rfl ?_
  refine k_goto 14 dJ0_coder_7d493_10 (by decide) ?_
  exact k_nret _ dJ0_coder_7d493_14 rfl rfl ⟨_, rfl, rfl, rfl⟩
theorem m_isLatin1 {G : Mem} {u : UInt32} (hu : u.toNat < 2) : MP M_J0_isLatin1_aae02 [.float u] G (vx 1 G) := by
  refine MP.of [some (.float u)] pf_J0_isLatin1_aae02 (Nat.le_of_ble_eq_true rfl) rfl ?_
  refine k_gets38 dJ0_isLatin1_aae02_0 rfl ?_
  refine k_if_eq 17 dJ0_isLatin1_aae02_3 (by decide) ⟨by decide, by decide⟩ (fun h => absurd h (by decide)) (fun _ => ?_)
  refine k_sload_n dJ0_isLatin1_aae02_6 rfl ?_
  refine k_sgetc hu dJ0_isLatin1_aae02_7 rfl ?_
  refine k_if_ne 17 dJ0_isLatin1_aae02_10 (by decide) ⟨by decide, by decide⟩ (fun h => absurd rfl h) (fun _ => ?_)
  refine k_iconst dJ0_isLatin1_aae02_13 ?_
  refine k_goto 18 dJ0_isLatin1_aae02_14 (by decide) ?_
  exact k_nret _ dJ0_isLatin1_aae02_18 rfl rfl ⟨_, rfl, rfl, rfl⟩
theorem m_strLength {G : Mem} {u v : UInt32} (hu : u.toNat < 2) (hv : v.toNat = u.toNat + 100) : MP M_J0_length_8abf5 [.float u] G (vx (q_sl u.toNat : Int) G) := by
  have h5 := sl_t u.toNat hu
  refine MP.of [some (.float u)] pf_J0_length_8abf5 (Nat.le_of_ble_eq_true rfl) rfl ?_
  refine k_sload_n dJ0_length_8abf5_0 rfl ?_
  refine k_sgetv hu hv dJ0_length_8abf5_1 rfl ?_
  refine k_sblen u.toNat hu hv dJ0_length_8abf5_4 ?_
  refine k_sload_n dJ0_length_8abf5_5 rfl ?_
  refine k_callVsi [] dJ0_length_8abf5_6 s_J0_length_8abf5_335 rfl (m_coder hu) rfl hu rfl (Nat.le_of_ble_eq_true rfl) ?_
  rintro _ _ ⟨rfl, rfl⟩
  refine k_ishr (q_sl u.toNat) 0 dJ0_length_8abf5_9 rfl rfl (by omega) (by omega) ?_
  exact k_iret dJ0_length_8abf5_10 rfl ⟨_, rfl, by rw [Nat.pow_zero, Nat.div_one], rfl⟩
theorem m_ck3 {G : Mem} {i n : Int} {v : Value} (hv : v = .null ∨ v = .float 200) (hi : 0 ≤ i ∧ i < n) (hn : n ≤ 5) : MP M_J3_checkIndex_8e157 [.int (iI i), .int (iI n), v] G (vx i G) := by
  have hh : de [.int (iI i), .int (iI n), v] = [some (.int (iI i)), some (.int (iI n)), some v] := by rcases hv with rfl | rfl <;> rfl
  refine MP.of [some (.int (iI i)), some (.int (iI n)), some v] pf_J3_checkIndex (by rw [hh]; exact Nat.le_of_ble_eq_true rfl) (by rw [hh]; rfl) ?_
  refine k_iload_n dJ3_checkIndex_8e157_0 rfl ?_
  refine k_if_lt 9 dJ3_checkIndex_8e157_1 (by decide) ⟨by omega, by omega⟩ (fun h => absurd h (by omega)) (fun _ => ?_)
  refine k_iload_n dJ3_checkIndex_8e157_4 rfl ?_
  refine k_iload_n dJ3_checkIndex_8e157_5 rfl ?_
  refine k_icmp_lt 16 dJ3_checkIndex_8e157_6 (by decide) ⟨by omega, by omega⟩ ⟨by omega, by omega⟩ (fun _ => ?_) (fun h => absurd hi.2 h)
  refine k_iload_n dJ3_checkIndex_8e157_16 rfl ?_
  exact k_iret dJ3_checkIndex_8e157_17 rfl ⟨_, rfl, rfl, rfl⟩
theorem m_ck0 {G : Mem} {i n : Int} (hi : 0 ≤ i ∧ i < n) (hn : n ≤ 5) : MP M_J0_checkIndex_df160 [.int (iI i), .int (iI n)] G (vv (fun g => G = g)) := by
  refine MP.of [some (.int (iI i)), some (.int (iI n))] pf_J0_checkIndex_df160 (Nat.le_of_ble_eq_true rfl) rfl ?_
  refine k_iload_n dJ0_checkIndex_df160_0 rfl ?_
  refine k_iload_n dJ0_checkIndex_df160_1 rfl ?_
  have key : ∀ v : Value, (v = .null ∨ v = .float 200) → Rn M_J0_checkIndex_df160 5 [some (.int (iI i)), some (.int (iI n))] [v, .int (iI n), .int (iI i)] 101 (MM G) 0 0 none 101 (MM G) := by
    intro v hv
    obtain ⟨o1, g1, ⟨w, rfl, rfl, rfl⟩, h2⟩ := m_ck3 (G := G) hv hi hn
    refine r_callS dJ0_checkIndex_df160_5 s_J0_checkIndex_1059 h2 (rest := []) rfl rfl (Nat.le_of_ble_eq_true rfl) (Or.inl rfl) ⟨Nat.zero_le _, Nat.zero_le _⟩ ?_
    refine r_pop dJ0_checkIndex_df160_8 rfl ?_
    exact r_ret dJ0_checkIndex_df160_9 rfl (Nat.zero_le _) (Nat.zero_le _)
  exact ⟨none, G, ⟨rfl, rfl⟩, r_getsio dJ0_checkIndex_df160_2 rfl (key _ (Or.inl rfl)) (key _ (Or.inr rfl))⟩
theorem m_latinAt {G : Mem} {u v : UInt32} (hu : u.toNat < 2) (hv : v.toNat = u.toNat + 100) {i : Int} (j : Nat) (hi : i = j) (hj : j < q_sl u.toNat) : MP M_J1_charAt_3b067 [.float v, .int (iI i)] G (vx (q_ch u.toNat j : Int) G) := by
  have h5 := sl_t u.toNat hu
  have ht := ch_t u.toNat hu j (by omega)
  refine MP.of [some (.float v), some (.int (iI i))] pf_J1_charAt_3b067 (Nat.le_of_ble_eq_true rfl) rfl ?_
  refine k_iload_n dJ1_charAt_3b067_0 rfl ?_
  refine k_sload_n dJ1_charAt_3b067_1 rfl ?_
  refine k_sblen u.toNat hu hv dJ1_charAt_3b067_2 ?_
  refine k_callSv [.int (iI _), .int (iI _)] dJ1_charAt_3b067_3 s_J1_charAt_3b067_9 rfl (m_ck0 ⟨by omega, by omega⟩ (by omega)) rfl (Nat.le_of_ble_eq_true rfl) ?_
  rintro _ rfl
  refine k_sload_n dJ1_charAt_3b067_6 rfl ?_
  refine k_iload_n dJ1_charAt_3b067_7 rfl ?_
  refine k_sbld u.toNat j hu hv hi hj dJ1_charAt_3b067_8 ?_
  refine k_sipush dJ1_charAt_3b067_9 (by decide) ?_
  refine k_iand (q_ch u.toNat j) 255 dJ1_charAt_3b067_12 rfl rfl ?_
  rw [ht.2.1]
  refine k_i2c dJ1_charAt_3b067_13 ht.2.2.1 ?_
  exact k_nret _ dJ1_charAt_3b067_14 rfl ht.2.2.2.1 ⟨_, rfl, rfl, rfl⟩
theorem m_charAt {G : Mem} {u v : UInt32} (hu : u.toNat < 2) (hv : v.toNat = u.toNat + 100) {i : Int} (j : Nat) (hi : i = j) (hj : j < q_sl u.toNat) : MP M_J0_charAt_5068e [.float u, .int (iI i)] G (vx (q_ch u.toNat j : Int) G) := by
  have h5 := sl_t u.toNat hu
  have ht := ch_t u.toNat hu j (by omega)
  refine MP.of [some (.float u), some (.int (iI i))] pf_J0_charAt_5068e (Nat.le_of_ble_eq_true rfl) rfl ?_
  refine k_sload_n dJ0_charAt_5068e_0 rfl ?_
  refine k_callVsi [] dJ0_charAt_5068e_1 s_J0_charAt_5068e_492 rfl (m_isLatin1 hu) rfl hu rfl (Nat.le_of_ble_eq_true rfl) ?_
  rintro _ _ ⟨rfl, rfl⟩
  refine k_if_eq 16 dJ0_charAt_5068e_4 (by decide) ⟨by decide, by decide⟩ (fun h => absurd h (by decide)) (fun _ => ?_)
  refine k_sload_n dJ0_charAt_5068e_7 rfl ?_
  refine k_sgetv hu hv dJ0_charAt_5068e_8 rfl ?_
  refine k_iload_n dJ0_charAt_5068e_11 rfl ?_
  refine k_callSi [.float v, .int (iI _)] dJ0_charAt_5068e_12 s_J0_charAt_5068e_495 rfl (m_latinAt hu hv j hi hj) rfl (Nat.le_of_ble_eq_true rfl) ?_
  rintro _ _ ⟨rfl, rfl⟩
  exact k_nret _ dJ0_charAt_5068e_15 rfl ht.2.2.2.1 ⟨_, rfl, rfl, rfl⟩
