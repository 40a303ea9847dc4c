/-! ===== THE LAW: a call out of it ===== -/
theorem W_back {p : Program} {l : Launch} {e : Env} {s : State} {m : MethodId} {args : Array Value} {below : List Frame} {meth : Method} {c : Code} {D : va_G} {tI tZ : ClassId} {ad sd : Nat → Nat} {A : Nat → Prop} {H : Heap} {locs : List Loc} {ls : Array Slot} {rm : Room} {N k n pc mc ms N1 : Nat} {S S1 : St} {Q : State → Prop} {out1 : Option Value} {st0 rest : List Value} {as : Array Value}
    (hA : ∀ q, s.heap.size ≤ q → A q) (Wk : Wd D tI tZ ad sd A N S s H locs)
    (hr : va_Run p l e rm s m args below meth c H locs k n mc ms (F0 m pc ls st0) rest (Qr D tI tZ ad sd (va_A (aw tI tZ ad sd N S) H.size) N out1 N1 S1 as) (va_A (aw tI tZ ad sd N S) H.size))
    (kk : ∀ (ad' : Nat → Nat) (H1 : Heap) (locs1 : List Loc), (∀ i, i < N → ad' i = ad i) → (N1 = N → ad' = ad) → Wd D tI tZ ad' sd A N1 S1 s H1 locs1 → W p l e rm s m args below meth c H1 locs1 (k + mc) (n + ms) Q (F0 m (pc + 3) ls ((out1.map (cv ad' sd)).toList ++ rest))) :
    W p l e rm s m args below meth c H locs k n Q (F0 m pc ls st0) := by
  have hAA : ∀ q, va_A (aw tI tZ ad sd N S) H.size q → A q := by
    intro q hq
    rcases hq with ⟨j, e9, hj⟩ | hq
    · exact Wk.2.1.2 j _ hj
    · exact hA q (Nat.le_trans Wk.2.2.1.1 hq)
  intro T hT X
  obtain ⟨v, st₀, t, T', Lc, h0, X', hLc, e1, e2, ⟨ad', hNN, hag, hsame, hv, hP1, hD1, hF, hok1⟩, stp⟩ := hr T hT X
  have hv2 : v = out1.map (cv ad' sd) := Outcome.returned.inj hv
  have hF1 := hF.1
  have hF2 := hF.2
  rw [h0] at hF1 hF2
  have Wk1 : Wd D tI tZ ad' sd A N1 S1 s T'.heap (locs ++ Lc) := by
    refine ⟨by rw [e1]; exact hP1, hD1.weaken (fun _ _ _ h => hAA _ h), ⟨by rw [e1]; exact Nat.le_trans Wk.2.2.1.1 hF1, fun q h1 h2 => ?_, fun q hq => ?_⟩, hok1⟩
    · rw [e1, hF2 q (Nat.lt_of_lt_of_le h1 Wk.2.2.1.1) (fun z => h2 (hAA q z))]
      exact Wk.2.2.1.2.1 q h1 h2
    · rcases List.mem_append.mp hq with h | h
      · exact Wk.2.2.1.2.2 q h
      · exact hAA _ (hLc q h)
  obtain ⟨t2, a1, b1⟩ := kk ad' _ _ hag hsame Wk1 T' rfl X'
  have hg : ({ F0 m pc ls st0 with pc := (F0 m pc ls st0).pc + 3, stack := v.toList ++ rest } : JFrame) = F0 m (pc + 3) ls ((out1.map (cv ad' sd)).toList ++ rest) := by
    rw [hv2]
  refine ⟨t2, stp t2 ?_, b1⟩
  rw [hg]
  exact a1
section LAWS
variable {p : Program} {l : Launch} {e : Env} {s : State} {m : MethodId} {below : List Frame} {meth meth' : Method} {c : Code} {D : va_G} {tI tZ : ClassId} {ad sd : Nat → Nat} {A : Nat → Prop} {H : Heap} {locs : List Loc} {ls : Array Slot} {b0 pc k n : Nat} {Q : State → Prop} {rest : List Value}
theorem lw_callV {Mc : MI} {idx nA ci b N : Nat} {as fs : List Value} {out1 : Option Value} {S S1 : St} (C : Cx M_L_law p s m #[.ref b0] meth' c D tI tZ sd A) (Wk : Wd D tI tZ ad sd A N S s H locs) (hls : ls.size = 4) (hd : decode code pc = .ok (.invokevirtual idx, 3)) (hs : SiteV M_L_law Mc idx nA 0 0) (hm : Mt Mc (.ref b :: as) N S out1 N S1) (hn : as.length = nA)
    (hb9 : S b = some (.inr (ci, fs))) (hci : ∃ q, vwCl[ci]? = some q ∧ q.1 = Mc.1.cls) (h8 : (rest.map fun v => v.category).sum ≤ 8) (hkn : k ≤ 101 ∧ n ≤ 1672)
    (kk : ∀ (H1 : Heap) (locs1 : List Loc), Wd D tI tZ ad sd A N S1 s H1 locs1 → W p l e room_1 s m #[.ref b0] below meth c H1 locs1 k n Q (F0 m (pc + 3) ls ((out1.map (cv ad sd)).toList ++ rest))) :
    W p l e room_1 s m #[.ref b0] below meth c H locs k n Q (F0 m pc ls ((as.map (cv ad sd)).reverse ++ .ref (ad b) :: rest)) := by
  obtain ⟨hx, hb, hml, hr0, hlo, hnm, hown, hts, hK, hA, hX⟩ := id C
  obtain ⟨hB, wl, w1, w2⟩ := hs
  obtain ⟨q, hq1, hq2⟩ := hci
  have hM := hm l D tI tZ ad sd H.size
  rw [hB.2.2.2.2.1, hB.2.2.2.2.2] at hM
  have he := aw_at (tI := tI) (tZ := tZ) (ad := ad) (sd := sd) (Wk.2.2.2 b _ hb9) hb9
  have hrc := va_recv hK Wk.1 hq1 he
  rw [hq2] at hrc
  refine W_back (N1 := N) (S1 := S1) (mc := 0) (ms := 0) hA Wk (va_runV (As := as.map (cv ad sd)) (b := ad b) ⟨hx, hb, hml, hown, hts⟩ hM ⟨callB_at C hB wl, hts _ w1, hts _ w2⟩ ⟨Pc_blind, hrc, Pc_at C Wk⟩ rfl (by rw [List.length_map]; exact hn) hls rfl (lv_room h8) hd hkn) (fun ad' H1 locs1 _ h2 Wk1 => ?_)
  rw [h2 rfl] at Wk1 ⊢
  exact kk H1 locs1 Wk1
theorem lw_callI {Mc : MI} {idx mc ms b N N1 : Nat} {S S1 : St} (C : Cx M_L_law p s m #[.ref b0] meth' c D tI tZ sd A) (Wk : Wd D tI tZ ad sd A N S s H locs) (hls : ls.size = 4) (hd : decode code pc = .ok (.invokespecial idx, 3)) (hs : SiteI M_L_law Mc idx 0 mc ms) (hm : Mt Mc [.ref b] N S none N1 S1)
    (h8 : (rest.map fun v => v.category).sum ≤ 8) (hkn : k + mc ≤ 101 ∧ n + ms ≤ 1672)
    (kk : ∀ (ad' : Nat → Nat) (H1 : Heap) (locs1 : List Loc), (∀ i, i < N → ad' i = ad i) → Wd D tI tZ ad' sd A N1 S1 s H1 locs1 → W p l e room_1 s m #[.ref b0] below meth c H1 locs1 (k + mc) (n + ms) Q (F0 m (pc + 3) ls rest)) :
    W p l e room_1 s m #[.ref b0] below meth c H locs k n Q (F0 m pc ls (.ref (ad b) :: rest)) := by
  obtain ⟨hx, hb, hml, hr0, hlo, hnm, hown, hts, hK, hA, hX⟩ := id C
  obtain ⟨hB, w0, w1, w2, wl⟩ := hs
  have hM := hm l D tI tZ ad sd H.size
  rw [hB.2.2.2.2.1, hB.2.2.2.2.2] at hM
  have hCB := callB_at C hB wl
  rw [w0] at hCB
  refine W_back (out1 := none) (N1 := N1) (S1 := S1) (mc := mc) (ms := ms) hA Wk (va_runI (As := []) (b := ad b) ⟨hx, hb, hml, hown, hts⟩ hM ⟨hCB, w1, hts _ w2⟩ ⟨Pc_blind, Pc_at C Wk⟩ rfl rfl hls rfl (lv_room h8) hd hkn) (fun ad' H1 locs1 h1 _ Wk1 => kk ad' H1 locs1 h1 Wk1)
theorem lw_new {idx ci nf N : Nat} {fs : List Value} {S : St} (C : Cx M_L_law p s m #[.ref b0] meth' c D tI tZ sd A) (Wk : Wd D tI tZ ad sd A N S s H locs) (hd : decode code pc = .ok (.new idx, 3)) (hs : NSite "SmallestSpeedLaw" idx ci nf fs) (hr : srk N S) (hk : k + 1 ≤ 101) (hn : n + nf ≤ 1672)
    (kk : ∀ (ad' : Nat → Nat) (H1 : Heap), (∀ i, i < N → ad' i = ad i) → Wd D tI tZ ad' sd A (N + 1) (su S N (.inr (ci, fs))) s H1 locs → W p l e room_1 s m #[.ref b0] below meth c H1 locs (k + 1) (n + nf) Q (F0 m (pc + 3) ls (.ref (ad' N) :: rest))) :
    W p l e room_1 s m #[.ref b0] below meth c H locs k n Q (F0 m pc ls rest) := by
  obtain ⟨CC, T, ty, hc, hin, hty, w1, w2, w3, hdef, hlit⟩ := hs
  obtain ⟨hx, hb, hml, hr0, hlo, hnm, hown, hts, hK, hA, hX⟩ := id C
  refine va_new hx hb hts hin ty hty hown (hts _ w1) (hts _ w2) (hts _ w3) hK Wk.1 Wk.2.1 Wk.2.2.1 hA hc (fs := fs) hdef hk hn hd (fun q H1 hP1 hD1 hS1 => ?_)
  have ag : ∀ i, i < N → (fun i => if i = N then q else ad i) i = ad i := fun i hi => if_neg (by omega)
  have e7 : (q, (Sum.inr (ci, fs) : va_E)) = (q, co tI tZ (fun i => if i = N then q else ad i) sd (.inr (ci, fs))) := by
    show _ = (q, (Sum.inr (ci, fs.map _) : va_E))
    rw [cv_lits hlit]
  rw [e7] at hP1 hD1
  have k2 := kk (fun i => if i = N then q else ad i) H1 ag (Wd_new Wk.2.2.2 hr hP1 hD1 hS1)
  have e8 : (if N = N then q else ad N) = q := if_pos rfl
  rw [e8] at k2
  exact k2
theorem vp_s {i j L : Nat} (h : i + j < L) (hL : L ≤ 384) : vp_in (iI (i : Int) + iI (j : Int)) L := by
  rw [iI_add]
  exact vp_iI (jn := i + j) (by omega) h (by omega)
theorem lg_same (x : Int64) : lg_cmp x x = 0 := by
  unfold lg_cmp
  rw [if_neg (Int64.lt_irrefl), if_pos rfl]
theorem law_0 (C : Cx M_L_law p s m #[.ref b0] meth' c D tI tZ sd A) {L : Nat} {xs : Nat → Int32} (hX : va_X b0 L xs s s.heap) (hbl : b0 < s.heap.size) (hbA : ¬ A b0) {G : Mem} (hR : Rel G) (Wk : Wd D tI tZ ad sd A 101 (MM G) s H locs) {i : Nat} (hi : i + 6 ≤ L) (hL : L ≤ 384) (hl : lv_has ls 4 [(0, .ref b0), (1, .ref (ad 0)), (2, .ref (ad 86)), (3, .int (iI (i : Int)))]) (kk : ∀ (G1 : Mem) (H1 : Heap) (locs1 : List Loc), Rel G1 → Wd D tI tZ ad sd A 101 (MM G1) s H1 locs1 → W p l e room_1 s m #[.ref b0] below meth c H1 locs1 101 1672 Q (F0 m 1098 ls [])) : W p l e room_1 s m #[.ref b0] below meth c H locs 101 1672 Q (F0 m 184 ls []) := by
  obtain ⟨hx, hb, -⟩ := id C
  have q1 : vp_in (iI (i : Int) + iI ((1 : Nat) : Int)) L := vp_s (by omega) hL
  have q2 : vp_in (iI (i : Int) + iI ((2 : Nat) : Int)) L := vp_s (by omega) hL
  obtain ⟨v, g2, k2, h1, h2, h3⟩ := cs_road hR (R32_toInt (xs (iI (i : Int) + iI ((1 : Nat) : Int)).toNatClampNeg)) (R32_toInt (xs (iI (i : Int) + iI ((2 : Nat) : Int)).toNatClampNeg))
  simp only [← iI_of] at h1 h2
  refine lv_aload_n hx hb dL_law_184 rfl (lv_at hl 1 rfl) ?_
  refine lv_aload_n hx hb dL_law_185 rfl (lv_at hl 0 rfl) ?_
  refine lv_iload_n hx hb dL_law_186 rfl (lv_at hl 3 rfl) ?_
  refine lv_iconst (v := iI ((1 : Nat) : Int)) hx hb dL_law_187 rfl ?_
  refine lv_iadd hx hb dL_law_188 ?_
  refine va_sld hx hb hX hbl hbA Wk.2.2.1 q1 dL_law_189 ?_
  refine lv_aload_n hx hb dL_law_190 rfl (lv_at hl 0 rfl) ?_
  refine lv_iload_n hx hb dL_law_191 rfl (lv_at hl 3 rfl) ?_
  refine lv_iconst (v := iI ((2 : Nat) : Int)) hx hb dL_law_192 rfl ?_
  refine lv_iadd hx hb dL_law_193 ?_
  refine va_sld hx hb hX hbl hbA Wk.2.2.1 q2 dL_law_194 ?_
  refine lw_callV (as := [.int _, .int _]) C Wk hl.1 dL_law_195 s_L_law_13 h1 rfl (MM_at (by decide)) ⟨_, rfl, rfl⟩ (Nat.le_of_ble_eq_true rfl) ⟨(Nat.le_of_ble_eq_true rfl), (Nat.le_of_ble_eq_true rfl)⟩ (fun H1 locs1 Wk1 => ?_)
  refine lv_aload_n hx hb dL_law_198 rfl (lv_at hl 2 rfl) ?_
  refine lv_aload_n hx hb dL_law_199 rfl (lv_at hl 0 rfl) ?_
  refine lv_iload_n hx hb dL_law_200 rfl (lv_at hl 3 rfl) ?_
  refine lv_iconst (v := iI ((1 : Nat) : Int)) hx hb dL_law_201 rfl ?_
  refine lv_iadd hx hb dL_law_202 ?_
  refine va_sld hx hb hX hbl hbA Wk1.2.2.1 q1 dL_law_203 ?_
  refine lv_aload_n hx hb dL_law_204 rfl (lv_at hl 0 rfl) ?_
  refine lv_iload_n hx hb dL_law_205 rfl (lv_at hl 3 rfl) ?_
  refine lv_iconst (v := iI ((2 : Nat) : Int)) hx hb dL_law_206 rfl ?_
  refine lv_iadd hx hb dL_law_207 ?_
  refine va_sld hx hb hX hbl hbA Wk1.2.2.1 q2 dL_law_208 ?_
  refine lw_callV (as := [.int _, .int _]) C Wk1 hl.1 dL_law_209 s_L_law_17 h2 rfl (MM_at (by decide)) ⟨_, rfl, rfl⟩ (Nat.le_of_ble_eq_true rfl) ⟨(Nat.le_of_ble_eq_true rfl), (Nat.le_of_ble_eq_true rfl)⟩ (fun H2 locs2 Wk2 => ?_)
  exact lv_icmp_eq (tgt := 1098) hx hb dL_law_212 (by decide) (fun _ => kk k2 H2 locs2 h3 Wk2) (fun h => absurd rfl h)
theorem law_1 (C : Cx M_L_law p s m #[.ref b0] meth' c D tI tZ sd A) {L : Nat} {xs : Nat → Int32} (hX : va_X b0 L xs s s.heap) (hbl : b0 < s.heap.size) (hbA : ¬ A b0) {G : Mem} (hR : Rel G) (Wk : Wd D tI tZ ad sd A 101 (MM G) s H locs) {i : Nat} (hi : i + 6 ≤ L) (hL : L ≤ 384) (hl : lv_has ls 4 [(0, .ref b0), (1, .ref (ad 0)), (2, .ref (ad 86)), (3, .int (iI (i : Int)))]) (kk : ∀ (G1 : Mem) (H1 : Heap) (locs1 : List Loc), Rel G1 → Wd D tI tZ ad sd A 101 (MM G1) s H1 locs1 → W p l e room_1 s m #[.ref b0] below meth c H1 locs1 101 1672 Q (F0 m 1098 ls [])) : W p l e room_1 s m #[.ref b0] below meth c H locs 101 1672 Q (F0 m 217 ls []) := by
  obtain ⟨hx, hb, -⟩ := id C
  have q1 : vp_in (iI (i : Int) + iI ((1 : Nat) : Int)) L := vp_s (by omega) hL
  obtain ⟨v, g2, k2, h1, h2, h3⟩ := cs_rule hR (R32_toInt (xs (iI (i : Int) + iI ((1 : Nat) : Int)).toNatClampNeg))
  simp only [← iI_of] at h1 h2
  refine lv_aload_n hx hb dL_law_217 rfl (lv_at hl 1 rfl) ?_
  refine lv_aload_n hx hb dL_law_218 rfl (lv_at hl 0 rfl) ?_
  refine lv_iload_n hx hb dL_law_219 rfl (lv_at hl 3 rfl) ?_
  refine lv_iconst (v := iI ((1 : Nat) : Int)) hx hb dL_law_220 rfl ?_
  refine lv_iadd hx hb dL_law_221 ?_
  refine va_sld hx hb hX hbl hbA Wk.2.2.1 q1 dL_law_222 ?_
  refine lw_callV (as := [.int _]) C Wk hl.1 dL_law_223 s_L_law_18 h1 rfl (MM_at (by decide)) ⟨_, rfl, rfl⟩ (Nat.le_of_ble_eq_true rfl) ⟨(Nat.le_of_ble_eq_true rfl), (Nat.le_of_ble_eq_true rfl)⟩ (fun H1 locs1 Wk1 => ?_)
  refine lv_aload_n hx hb dL_law_226 rfl (lv_at hl 2 rfl) ?_
  refine lv_aload_n hx hb dL_law_227 rfl (lv_at hl 0 rfl) ?_
  refine lv_iload_n hx hb dL_law_228 rfl (lv_at hl 3 rfl) ?_
  refine lv_iconst (v := iI ((1 : Nat) : Int)) hx hb dL_law_229 rfl ?_
  refine lv_iadd hx hb dL_law_230 ?_
  refine va_sld hx hb hX hbl hbA Wk1.2.2.1 q1 dL_law_231 ?_
  refine lw_callV (as := [.int _]) C Wk1 hl.1 dL_law_232 s_L_law_22 h2 rfl (MM_at (by decide)) ⟨_, rfl, rfl⟩ (Nat.le_of_ble_eq_true rfl) ⟨(Nat.le_of_ble_eq_true rfl), (Nat.le_of_ble_eq_true rfl)⟩ (fun H2 locs2 Wk2 => ?_)
  exact lv_icmp_eq (tgt := 1098) hx hb dL_law_235 (by decide) (fun _ => kk k2 H2 locs2 h3 Wk2) (fun h => absurd rfl h)
theorem law_2 (C : Cx M_L_law p s m #[.ref b0] meth' c D tI tZ sd A) {L : Nat} {xs : Nat → Int32} (hX : va_X b0 L xs s s.heap) (hbl : b0 < s.heap.size) (hbA : ¬ A b0) {G : Mem} (hR : Rel G) (Wk : Wd D tI tZ ad sd A 101 (MM G) s H locs) {i : Nat} (hi : i + 6 ≤ L) (hL : L ≤ 384) (hl : lv_has ls 4 [(0, .ref b0), (1, .ref (ad 0)), (2, .ref (ad 86)), (3, .int (iI (i : Int)))]) (kk : ∀ (G1 : Mem) (H1 : Heap) (locs1 : List Loc), Rel G1 → Wd D tI tZ ad sd A 101 (MM G1) s H1 locs1 → W p l e room_1 s m #[.ref b0] below meth c H1 locs1 101 1672 Q (F0 m 1098 ls [])) : W p l e room_1 s m #[.ref b0] below meth c H locs 101 1672 Q (F0 m 240 ls []) := by
  obtain ⟨hx, hb, -⟩ := id C
  have q1 : vp_in (iI (i : Int) + iI ((1 : Nat) : Int)) L := vp_s (by omega) hL
  obtain ⟨v, g2, k2, h1, h2, h3⟩ := cs_sight hR (R32_toInt (xs (iI (i : Int) + iI ((1 : Nat) : Int)).toNatClampNeg))
  simp only [← iI_of] at h1 h2
  refine lv_aload_n hx hb dL_law_240 rfl (lv_at hl 1 rfl) ?_
  refine lv_aload_n hx hb dL_law_241 rfl (lv_at hl 0 rfl) ?_
  refine lv_iload_n hx hb dL_law_242 rfl (lv_at hl 3 rfl) ?_
  refine lv_iconst (v := iI ((1 : Nat) : Int)) hx hb dL_law_243 rfl ?_
  refine lv_iadd hx hb dL_law_244 ?_
  refine va_sld hx hb hX hbl hbA Wk.2.2.1 q1 dL_law_245 ?_
  refine lw_callV (as := [.int _]) C Wk hl.1 dL_law_246 s_L_law_23 h1 rfl (MM_at (by decide)) ⟨_, rfl, rfl⟩ (Nat.le_of_ble_eq_true rfl) ⟨(Nat.le_of_ble_eq_true rfl), (Nat.le_of_ble_eq_true rfl)⟩ (fun H1 locs1 Wk1 => ?_)
  refine lv_aload_n hx hb dL_law_249 rfl (lv_at hl 2 rfl) ?_
  refine lv_aload_n hx hb dL_law_250 rfl (lv_at hl 0 rfl) ?_
  refine lv_iload_n hx hb dL_law_251 rfl (lv_at hl 3 rfl) ?_
  refine lv_iconst (v := iI ((1 : Nat) : Int)) hx hb dL_law_252 rfl ?_
  refine lv_iadd hx hb dL_law_253 ?_
  refine va_sld hx hb hX hbl hbA Wk1.2.2.1 q1 dL_law_254 ?_
  refine lw_callV (as := [.int _]) C Wk1 hl.1 dL_law_255 s_L_law_26 h2 rfl (MM_at (by decide)) ⟨_, rfl, rfl⟩ (Nat.le_of_ble_eq_true rfl) ⟨(Nat.le_of_ble_eq_true rfl), (Nat.le_of_ble_eq_true rfl)⟩ (fun H2 locs2 Wk2 => ?_)
  exact lv_icmp_eq (tgt := 1098) hx hb dL_law_258 (by decide) (fun _ => kk k2 H2 locs2 h3 Wk2) (fun h => absurd rfl h)
theorem law_3 (C : Cx M_L_law p s m #[.ref b0] meth' c D tI tZ sd A) {L : Nat} {xs : Nat → Int32} (hX : va_X b0 L xs s s.heap) (hbl : b0 < s.heap.size) (hbA : ¬ A b0) {G : Mem} (hR : Rel G) (Wk : Wd D tI tZ ad sd A 101 (MM G) s H locs) {i : Nat} (hi : i + 6 ≤ L) (hL : L ≤ 384) (hl : lv_has ls 4 [(0, .ref b0), (1, .ref (ad 0)), (2, .ref (ad 86)), (3, .int (iI (i : Int)))]) (kk : ∀ (G1 : Mem) (H1 : Heap) (locs1 : List Loc), Rel G1 → Wd D tI tZ ad sd A 101 (MM G1) s H1 locs1 → W p l e room_1 s m #[.ref b0] below meth c H1 locs1 101 1672 Q (F0 m 1098 ls [])) : W p l e room_1 s m #[.ref b0] below meth c H locs 101 1672 Q (F0 m 263 ls []) := by
  obtain ⟨hx, hb, -⟩ := id C
  have q1 : vp_in (iI (i : Int) + iI ((1 : Nat) : Int)) L := vp_s (by omega) hL
  have q2 : vp_in (iI (i : Int) + iI ((2 : Nat) : Int)) L := vp_s (by omega) hL
  have q3 : vp_in (iI (i : Int) + iI ((3 : Nat) : Int)) L := vp_s (by omega) hL
  have q4 : vp_in (iI (i : Int) + iI ((4 : Nat) : Int)) L := vp_s (by omega) hL
  have q5 : vp_in (iI (i : Int) + iI ((5 : Nat) : Int)) L := vp_s (by omega) hL
  obtain ⟨v, g2, k2, h1, h2, h3⟩ := cs_child hR (R32_toInt (xs (iI (i : Int) + iI ((1 : Nat) : Int)).toNatClampNeg)) (R32_toInt (xs (iI (i : Int) + iI ((2 : Nat) : Int)).toNatClampNeg)) (R32_toInt (xs (iI (i : Int) + iI ((3 : Nat) : Int)).toNatClampNeg)) (R32_toInt (xs (iI (i : Int) + iI ((4 : Nat) : Int)).toNatClampNeg)) (R32_toInt (xs (iI (i : Int) + iI ((5 : Nat) : Int)).toNatClampNeg))
  simp only [← iI_of] at h1 h2
  refine lv_aload_n hx hb dL_law_263 rfl (lv_at hl 1 rfl) ?_
  refine lv_aload_n hx hb dL_law_264 rfl (lv_at hl 0 rfl) ?_
  refine lv_iload_n hx hb dL_law_265 rfl (lv_at hl 3 rfl) ?_
  refine lv_iconst (v := iI ((1 : Nat) : Int)) hx hb dL_law_266 rfl ?_
  refine lv_iadd hx hb dL_law_267 ?_
  refine va_sld hx hb hX hbl hbA Wk.2.2.1 q1 dL_law_268 ?_
  refine lv_aload_n hx hb dL_law_269 rfl (lv_at hl 0 rfl) ?_
  refine lv_iload_n hx hb dL_law_270 rfl (lv_at hl 3 rfl) ?_
  refine lv_iconst (v := iI ((2 : Nat) : Int)) hx hb dL_law_271 rfl ?_
  refine lv_iadd hx hb dL_law_272 ?_
  refine va_sld hx hb hX hbl hbA Wk.2.2.1 q2 dL_law_273 ?_
  refine lv_aload_n hx hb dL_law_274 rfl (lv_at hl 0 rfl) ?_
  refine lv_iload_n hx hb dL_law_275 rfl (lv_at hl 3 rfl) ?_
  refine lv_iconst (v := iI ((3 : Nat) : Int)) hx hb dL_law_276 rfl ?_
  refine lv_iadd hx hb dL_law_277 ?_
  refine va_sld hx hb hX hbl hbA Wk.2.2.1 q3 dL_law_278 ?_
  refine lv_aload_n hx hb dL_law_279 rfl (lv_at hl 0 rfl) ?_
  refine lv_iload_n hx hb dL_law_280 rfl (lv_at hl 3 rfl) ?_
  refine lv_iconst (v := iI ((4 : Nat) : Int)) hx hb dL_law_281 rfl ?_
  refine lv_iadd hx hb dL_law_282 ?_
  refine va_sld hx hb hX hbl hbA Wk.2.2.1 q4 dL_law_283 ?_
  refine lv_aload_n hx hb dL_law_284 rfl (lv_at hl 0 rfl) ?_
  refine lv_iload_n hx hb dL_law_285 rfl (lv_at hl 3 rfl) ?_
  refine lv_iconst (v := iI ((5 : Nat) : Int)) hx hb dL_law_286 rfl ?_
  refine lv_iadd hx hb dL_law_287 ?_
  refine va_sld hx hb hX hbl hbA Wk.2.2.1 q5 dL_law_288 ?_
  refine lw_callV (as := [.int _, .int _, .int _, .int _, .int _]) C Wk hl.1 dL_law_289 s_L_law_27 h1 rfl (MM_at (by decide)) ⟨_, rfl, rfl⟩ (Nat.le_of_ble_eq_true rfl) ⟨(Nat.le_of_ble_eq_true rfl), (Nat.le_of_ble_eq_true rfl)⟩ (fun H1 locs1 Wk1 => ?_)
  refine lv_aload_n hx hb dL_law_292 rfl (lv_at hl 2 rfl) ?_
  refine lv_aload_n hx hb dL_law_293 rfl (lv_at hl 0 rfl) ?_
  refine lv_iload_n hx hb dL_law_294 rfl (lv_at hl 3 rfl) ?_
  refine lv_iconst (v := iI ((1 : Nat) : Int)) hx hb dL_law_295 rfl ?_
  refine lv_iadd hx hb dL_law_296 ?_
  refine va_sld hx hb hX hbl hbA Wk1.2.2.1 q1 dL_law_297 ?_
  refine lv_aload_n hx hb dL_law_298 rfl (lv_at hl 0 rfl) ?_
  refine lv_iload_n hx hb dL_law_299 rfl (lv_at hl 3 rfl) ?_
  refine lv_iconst (v := iI ((2 : Nat) : Int)) hx hb dL_law_300 rfl ?_
  refine lv_iadd hx hb dL_law_301 ?_
  refine va_sld hx hb hX hbl hbA Wk1.2.2.1 q2 dL_law_302 ?_
  refine lv_aload_n hx hb dL_law_303 rfl (lv_at hl 0 rfl) ?_
  refine lv_iload_n hx hb dL_law_304 rfl (lv_at hl 3 rfl) ?_
  refine lv_iconst (v := iI ((3 : Nat) : Int)) hx hb dL_law_305 rfl ?_
  refine lv_iadd hx hb dL_law_306 ?_
  refine va_sld hx hb hX hbl hbA Wk1.2.2.1 q3 dL_law_307 ?_
  refine lv_aload_n hx hb dL_law_308 rfl (lv_at hl 0 rfl) ?_
  refine lv_iload_n hx hb dL_law_309 rfl (lv_at hl 3 rfl) ?_
  refine lv_iconst (v := iI ((4 : Nat) : Int)) hx hb dL_law_310 rfl ?_
  refine lv_iadd hx hb dL_law_311 ?_
  refine va_sld hx hb hX hbl hbA Wk1.2.2.1 q4 dL_law_312 ?_
  refine lv_aload_n hx hb dL_law_313 rfl (lv_at hl 0 rfl) ?_
  refine lv_iload_n hx hb dL_law_314 rfl (lv_at hl 3 rfl) ?_
  refine lv_iconst (v := iI ((5 : Nat) : Int)) hx hb dL_law_315 rfl ?_
  refine lv_iadd hx hb dL_law_316 ?_
  refine va_sld hx hb hX hbl hbA Wk1.2.2.1 q5 dL_law_317 ?_
  refine lw_callV (as := [.int _, .int _, .int _, .int _, .int _]) C Wk1 hl.1 dL_law_318 s_L_law_31 h2 rfl (MM_at (by decide)) ⟨_, rfl, rfl⟩ (Nat.le_of_ble_eq_true rfl) ⟨(Nat.le_of_ble_eq_true rfl), (Nat.le_of_ble_eq_true rfl)⟩ (fun H2 locs2 Wk2 => ?_)
  exact lv_icmp_eq (tgt := 1098) hx hb dL_law_321 (by decide) (fun _ => kk k2 H2 locs2 h3 Wk2) (fun h => absurd rfl h)
theorem law_4 (C : Cx M_L_law p s m #[.ref b0] meth' c D tI tZ sd A) {L : Nat} {xs : Nat → Int32} (hX : va_X b0 L xs s s.heap) (hbl : b0 < s.heap.size) (hbA : ¬ A b0) {G : Mem} (hR : Rel G) (Wk : Wd D tI tZ ad sd A 101 (MM G) s H locs) {i : Nat} (hi : i + 6 ≤ L) (hL : L ≤ 384) (hl : lv_has ls 4 [(0, .ref b0), (1, .ref (ad 0)), (2, .ref (ad 86)), (3, .int (iI (i : Int)))]) (kk : ∀ (G1 : Mem) (H1 : Heap) (locs1 : List Loc), Rel G1 → Wd D tI tZ ad sd A 101 (MM G1) s H1 locs1 → W p l e room_1 s m #[.ref b0] below meth c H1 locs1 101 1672 Q (F0 m 1098 ls [])) : W p l e room_1 s m #[.ref b0] below meth c H locs 101 1672 Q (F0 m 326 ls []) := by
  obtain ⟨hx, hb, -⟩ := id C
  have q1 : vp_in (iI (i : Int) + iI ((1 : Nat) : Int)) L := vp_s (by omega) hL
  have q2 : vp_in (iI (i : Int) + iI ((2 : Nat) : Int)) L := vp_s (by omega) hL
  obtain ⟨v, g2, k2, h1, h2, h3⟩ := cs_stand hR (R32_toInt (xs (iI (i : Int) + iI ((1 : Nat) : Int)).toNatClampNeg)) (R32_toInt (xs (iI (i : Int) + iI ((2 : Nat) : Int)).toNatClampNeg))
  simp only [← iI_of] at h1 h2
  refine lv_aload_n hx hb dL_law_326 rfl (lv_at hl 1 rfl) ?_
  refine lv_aload_n hx hb dL_law_327 rfl (lv_at hl 0 rfl) ?_
  refine lv_iload_n hx hb dL_law_328 rfl (lv_at hl 3 rfl) ?_
  refine lv_iconst (v := iI ((1 : Nat) : Int)) hx hb dL_law_329 rfl ?_
  refine lv_iadd hx hb dL_law_330 ?_
  refine va_sld hx hb hX hbl hbA Wk.2.2.1 q1 dL_law_331 ?_
  refine lv_aload_n hx hb dL_law_332 rfl (lv_at hl 0 rfl) ?_
  refine lv_iload_n hx hb dL_law_333 rfl (lv_at hl 3 rfl) ?_
  refine lv_iconst (v := iI ((2 : Nat) : Int)) hx hb dL_law_334 rfl ?_
  refine lv_iadd hx hb dL_law_335 ?_
  refine va_sld hx hb hX hbl hbA Wk.2.2.1 q2 dL_law_336 ?_
  refine lw_callV (as := [.int _, .int _]) C Wk hl.1 dL_law_337 s_L_law_32 h1 rfl (MM_at (by decide)) ⟨_, rfl, rfl⟩ (Nat.le_of_ble_eq_true rfl) ⟨(Nat.le_of_ble_eq_true rfl), (Nat.le_of_ble_eq_true rfl)⟩ (fun H1 locs1 Wk1 => ?_)
  refine lv_aload_n hx hb dL_law_340 rfl (lv_at hl 2 rfl) ?_
  refine lv_aload_n hx hb dL_law_341 rfl (lv_at hl 0 rfl) ?_
  refine lv_iload_n hx hb dL_law_342 rfl (lv_at hl 3 rfl) ?_
  refine lv_iconst (v := iI ((1 : Nat) : Int)) hx hb dL_law_343 rfl ?_
  refine lv_iadd hx hb dL_law_344 ?_
  refine va_sld hx hb hX hbl hbA Wk1.2.2.1 q1 dL_law_345 ?_
  refine lv_aload_n hx hb dL_law_346 rfl (lv_at hl 0 rfl) ?_
  refine lv_iload_n hx hb dL_law_347 rfl (lv_at hl 3 rfl) ?_
  refine lv_iconst (v := iI ((2 : Nat) : Int)) hx hb dL_law_348 rfl ?_
  refine lv_iadd hx hb dL_law_349 ?_
  refine va_sld hx hb hX hbl hbA Wk1.2.2.1 q2 dL_law_350 ?_
  refine lw_callV (as := [.int _, .int _]) C Wk1 hl.1 dL_law_351 s_L_law_35 h2 rfl (MM_at (by decide)) ⟨_, rfl, rfl⟩ (Nat.le_of_ble_eq_true rfl) ⟨(Nat.le_of_ble_eq_true rfl), (Nat.le_of_ble_eq_true rfl)⟩ (fun H2 locs2 Wk2 => ?_)
  exact lv_icmp_eq (tgt := 1098) hx hb dL_law_354 (by decide) (fun _ => kk k2 H2 locs2 h3 Wk2) (fun h => absurd rfl h)
theorem law_5 (C : Cx M_L_law p s m #[.ref b0] meth' c D tI tZ sd A) {L : Nat} {xs : Nat → Int32} (hX : va_X b0 L xs s s.heap) (hbl : b0 < s.heap.size) (hbA : ¬ A b0) {G : Mem} (hR : Rel G) (Wk : Wd D tI tZ ad sd A 101 (MM G) s H locs) {i : Nat} (hi : i + 6 ≤ L) (hL : L ≤ 384) (hl : lv_has ls 4 [(0, .ref b0), (1, .ref (ad 0)), (2, .ref (ad 86)), (3, .int (iI (i : Int)))]) (kk : ∀ (G1 : Mem) (H1 : Heap) (locs1 : List Loc), Rel G1 → Wd D tI tZ ad sd A 101 (MM G1) s H1 locs1 → W p l e room_1 s m #[.ref b0] below meth c H1 locs1 101 1672 Q (F0 m 1098 ls [])) : W p l e room_1 s m #[.ref b0] below meth c H locs 101 1672 Q (F0 m 359 ls []) := by
  obtain ⟨hx, hb, -⟩ := id C
  have q1 : vp_in (iI (i : Int) + iI ((1 : Nat) : Int)) L := vp_s (by omega) hL
  have q2 : vp_in (iI (i : Int) + iI ((2 : Nat) : Int)) L := vp_s (by omega) hL
  obtain ⟨v, g2, k2, h1, h2, h3⟩ := cs_bed hR (R32_toInt (xs (iI (i : Int) + iI ((1 : Nat) : Int)).toNatClampNeg)) (R32_toInt (xs (iI (i : Int) + iI ((2 : Nat) : Int)).toNatClampNeg))
  simp only [← iI_of] at h1 h2
  refine lv_aload_n hx hb dL_law_359 rfl (lv_at hl 1 rfl) ?_
  refine lv_aload_n hx hb dL_law_360 rfl (lv_at hl 0 rfl) ?_
  refine lv_iload_n hx hb dL_law_361 rfl (lv_at hl 3 rfl) ?_
  refine lv_iconst (v := iI ((1 : Nat) : Int)) hx hb dL_law_362 rfl ?_
  refine lv_iadd hx hb dL_law_363 ?_
  refine va_sld hx hb hX hbl hbA Wk.2.2.1 q1 dL_law_364 ?_
  refine lv_aload_n hx hb dL_law_365 rfl (lv_at hl 0 rfl) ?_
  refine lv_iload_n hx hb dL_law_366 rfl (lv_at hl 3 rfl) ?_
  refine lv_iconst (v := iI ((2 : Nat) : Int)) hx hb dL_law_367 rfl ?_
  refine lv_iadd hx hb dL_law_368 ?_
  refine va_sld hx hb hX hbl hbA Wk.2.2.1 q2 dL_law_369 ?_
  refine lw_callV (as := [.int _, .int _]) C Wk hl.1 dL_law_370 s_L_law_36 h1 rfl (MM_at (by decide)) ⟨_, rfl, rfl⟩ (Nat.le_of_ble_eq_true rfl) ⟨(Nat.le_of_ble_eq_true rfl), (Nat.le_of_ble_eq_true rfl)⟩ (fun H1 locs1 Wk1 => ?_)
  refine lv_aload_n hx hb dL_law_373 rfl (lv_at hl 2 rfl) ?_
  refine lv_aload_n hx hb dL_law_374 rfl (lv_at hl 0 rfl) ?_
  refine lv_iload_n hx hb dL_law_375 rfl (lv_at hl 3 rfl) ?_
  refine lv_iconst (v := iI ((1 : Nat) : Int)) hx hb dL_law_376 rfl ?_
  refine lv_iadd hx hb dL_law_377 ?_
  refine va_sld hx hb hX hbl hbA Wk1.2.2.1 q1 dL_law_378 ?_
  refine lv_aload_n hx hb dL_law_379 rfl (lv_at hl 0 rfl) ?_
  refine lv_iload_n hx hb dL_law_380 rfl (lv_at hl 3 rfl) ?_
  refine lv_iconst (v := iI ((2 : Nat) : Int)) hx hb dL_law_381 rfl ?_
  refine lv_iadd hx hb dL_law_382 ?_
  refine va_sld hx hb hX hbl hbA Wk1.2.2.1 q2 dL_law_383 ?_
  refine lw_callV (as := [.int _, .int _]) C Wk1 hl.1 dL_law_384 s_L_law_39 h2 rfl (MM_at (by decide)) ⟨_, rfl, rfl⟩ (Nat.le_of_ble_eq_true rfl) ⟨(Nat.le_of_ble_eq_true rfl), (Nat.le_of_ble_eq_true rfl)⟩ (fun H2 locs2 Wk2 => ?_)
  exact lv_icmp_eq (tgt := 1098) hx hb dL_law_387 (by decide) (fun _ => kk k2 H2 locs2 h3 Wk2) (fun h => absurd rfl h)
theorem law_6 (C : Cx M_L_law p s m #[.ref b0] meth' c D tI tZ sd A) {L : Nat} {xs : Nat → Int32} (hX : va_X b0 L xs s s.heap) (hbl : b0 < s.heap.size) (hbA : ¬ A b0) {G : Mem} (hR : Rel G) (Wk : Wd D tI tZ ad sd A 101 (MM G) s H locs) {i : Nat} (hi : i + 6 ≤ L) (hL : L ≤ 384) (hl : lv_has ls 4 [(0, .ref b0), (1, .ref (ad 0)), (2, .ref (ad 86)), (3, .int (iI (i : Int)))]) (kk : ∀ (G1 : Mem) (H1 : Heap) (locs1 : List Loc), Rel G1 → Wd D tI tZ ad sd A 101 (MM G1) s H1 locs1 → W p l e room_1 s m #[.ref b0] below meth c H1 locs1 101 1672 Q (F0 m 1098 ls [])) : W p l e room_1 s m #[.ref b0] below meth c H locs 101 1672 Q (F0 m 392 ls []) := by
  obtain ⟨hx, hb, -⟩ := id C
  obtain ⟨v, g2, k2, h1, h2, h3⟩ := cs_undo hR 
  refine lv_aload_n hx hb dL_law_392 rfl (lv_at hl 1 rfl) ?_
  refine lw_callV (as := []) C Wk hl.1 dL_law_393 s_L_law_40 h1 rfl (MM_at (by decide)) ⟨_, rfl, rfl⟩ (Nat.le_of_ble_eq_true rfl) ⟨(Nat.le_of_ble_eq_true rfl), (Nat.le_of_ble_eq_true rfl)⟩ (fun H1 locs1 Wk1 => ?_)
  refine lv_aload_n hx hb dL_law_396 rfl (lv_at hl 2 rfl) ?_
  refine lw_callV (as := []) C Wk1 hl.1 dL_law_397 s_L_law_44 h2 rfl (MM_at (by decide)) ⟨_, rfl, rfl⟩ (Nat.le_of_ble_eq_true rfl) ⟨(Nat.le_of_ble_eq_true rfl), (Nat.le_of_ble_eq_true rfl)⟩ (fun H2 locs2 Wk2 => ?_)
  exact lv_icmp_eq (tgt := 1098) hx hb dL_law_400 (by decide) (fun _ => kk k2 H2 locs2 h3 Wk2) (fun h => absurd rfl h)
theorem law_7 (C : Cx M_L_law p s m #[.ref b0] meth' c D tI tZ sd A) {L : Nat} {xs : Nat → Int32} (hX : va_X b0 L xs s s.heap) (hbl : b0 < s.heap.size) (hbA : ¬ A b0) {G : Mem} (hR : Rel G) (Wk : Wd D tI tZ ad sd A 101 (MM G) s H locs) {i : Nat} (hi : i + 6 ≤ L) (hL : L ≤ 384) (hl : lv_has ls 4 [(0, .ref b0), (1, .ref (ad 0)), (2, .ref (ad 86)), (3, .int (iI (i : Int)))]) (kk : ∀ (G1 : Mem) (H1 : Heap) (locs1 : List Loc), Rel G1 → Wd D tI tZ ad sd A 101 (MM G1) s H1 locs1 → W p l e room_1 s m #[.ref b0] below meth c H1 locs1 101 1672 Q (F0 m 1098 ls [])) : W p l e room_1 s m #[.ref b0] below meth c H locs 101 1672 Q (F0 m 405 ls []) := by
  obtain ⟨hx, hb, -⟩ := id C
  have q1 : vp_in (iI (i : Int) + iI ((1 : Nat) : Int)) L := vp_s (by omega) hL
  obtain ⟨v, g2, k2, h1, h2, h3⟩ := cs_type hR (R32_toInt (xs (iI (i : Int) + iI ((1 : Nat) : Int)).toNatClampNeg))
  simp only [← iI_of] at h1 h2
  refine lv_aload_n hx hb dL_law_405 rfl (lv_at hl 1 rfl) ?_
  refine lv_aload_n hx hb dL_law_406 rfl (lv_at hl 0 rfl) ?_
  refine lv_iload_n hx hb dL_law_407 rfl (lv_at hl 3 rfl) ?_
  refine lv_iconst (v := iI ((1 : Nat) : Int)) hx hb dL_law_408 rfl ?_
  refine lv_iadd hx hb dL_law_409 ?_
  refine va_sld hx hb hX hbl hbA Wk.2.2.1 q1 dL_law_410 ?_
  refine lw_callV (as := [.int _]) C Wk hl.1 dL_law_411 s_L_law_45 h1 rfl (MM_at (by decide)) ⟨_, rfl, rfl⟩ (Nat.le_of_ble_eq_true rfl) ⟨(Nat.le_of_ble_eq_true rfl), (Nat.le_of_ble_eq_true rfl)⟩ (fun H1 locs1 Wk1 => ?_)
  refine lv_aload_n hx hb dL_law_414 rfl (lv_at hl 2 rfl) ?_
  refine lv_aload_n hx hb dL_law_415 rfl (lv_at hl 0 rfl) ?_
  refine lv_iload_n hx hb dL_law_416 rfl (lv_at hl 3 rfl) ?_
  refine lv_iconst (v := iI ((1 : Nat) : Int)) hx hb dL_law_417 rfl ?_
  refine lv_iadd hx hb dL_law_418 ?_
  refine va_sld hx hb hX hbl hbA Wk1.2.2.1 q1 dL_law_419 ?_
  refine lw_callV (as := [.int _]) C Wk1 hl.1 dL_law_420 s_L_law_48 h2 rfl (MM_at (by decide)) ⟨_, rfl, rfl⟩ (Nat.le_of_ble_eq_true rfl) ⟨(Nat.le_of_ble_eq_true rfl), (Nat.le_of_ble_eq_true rfl)⟩ (fun H2 locs2 Wk2 => ?_)
  exact lv_icmp_eq (tgt := 1098) hx hb dL_law_423 (by decide) (fun _ => kk k2 H2 locs2 h3 Wk2) (fun h => absurd rfl h)
theorem law_8 (C : Cx M_L_law p s m #[.ref b0] meth' c D tI tZ sd A) {L : Nat} {xs : Nat → Int32} (hX : va_X b0 L xs s s.heap) (hbl : b0 < s.heap.size) (hbA : ¬ A b0) {G : Mem} (hR : Rel G) (Wk : Wd D tI tZ ad sd A 101 (MM G) s H locs) {i : Nat} (hi : i + 6 ≤ L) (hL : L ≤ 384) (hl : lv_has ls 4 [(0, .ref b0), (1, .ref (ad 0)), (2, .ref (ad 86)), (3, .int (iI (i : Int)))]) (kk : ∀ (G1 : Mem) (H1 : Heap) (locs1 : List Loc), Rel G1 → Wd D tI tZ ad sd A 101 (MM G1) s H1 locs1 → W p l e room_1 s m #[.ref b0] below meth c H1 locs1 101 1672 Q (F0 m 1098 ls [])) : W p l e room_1 s m #[.ref b0] below meth c H locs 101 1672 Q (F0 m 428 ls []) := by
  obtain ⟨hx, hb, -⟩ := id C
  obtain ⟨v, g2, k2, h1, h2, h3⟩ := cs_clear hR 
  refine lv_aload_n hx hb dL_law_428 rfl (lv_at hl 1 rfl) ?_
  refine lw_callV (as := []) C Wk hl.1 dL_law_429 s_L_law_49 h1 rfl (MM_at (by decide)) ⟨_, rfl, rfl⟩ (Nat.le_of_ble_eq_true rfl) ⟨(Nat.le_of_ble_eq_true rfl), (Nat.le_of_ble_eq_true rfl)⟩ (fun H1 locs1 Wk1 => ?_)
  refine lv_aload_n hx hb dL_law_432 rfl (lv_at hl 2 rfl) ?_
  refine lw_callV (as := []) C Wk1 hl.1 dL_law_433 s_L_law_52 h2 rfl (MM_at (by decide)) ⟨_, rfl, rfl⟩ (Nat.le_of_ble_eq_true rfl) ⟨(Nat.le_of_ble_eq_true rfl), (Nat.le_of_ble_eq_true rfl)⟩ (fun H2 locs2 Wk2 => ?_)
  exact lv_icmp_eq (tgt := 1098) hx hb dL_law_436 (by decide) (fun _ => kk k2 H2 locs2 h3 Wk2) (fun h => absurd rfl h)
theorem law_9 (C : Cx M_L_law p s m #[.ref b0] meth' c D tI tZ sd A) {L : Nat} {xs : Nat → Int32} (hX : va_X b0 L xs s s.heap) (hbl : b0 < s.heap.size) (hbA : ¬ A b0) {G : Mem} (hR : Rel G) (Wk : Wd D tI tZ ad sd A 101 (MM G) s H locs) {i : Nat} (hi : i + 6 ≤ L) (hL : L ≤ 384) (hl : lv_has ls 4 [(0, .ref b0), (1, .ref (ad 0)), (2, .ref (ad 86)), (3, .int (iI (i : Int)))]) (kk : ∀ (G1 : Mem) (H1 : Heap) (locs1 : List Loc), Rel G1 → Wd D tI tZ ad sd A 101 (MM G1) s H1 locs1 → W p l e room_1 s m #[.ref b0] below meth c H1 locs1 101 1672 Q (F0 m 1098 ls [])) : W p l e room_1 s m #[.ref b0] below meth c H locs 101 1672 Q (F0 m 441 ls []) := by
  obtain ⟨hx, hb, -⟩ := id C
  obtain ⟨v, g2, k2, h1, h2, h3⟩ := cs_read hR 
  refine lv_aload_n hx hb dL_law_441 rfl (lv_at hl 1 rfl) ?_
  refine lw_callV (as := []) C Wk hl.1 dL_law_442 s_L_law_53 h1 rfl (MM_at (by decide)) ⟨_, rfl, rfl⟩ (Nat.le_of_ble_eq_true rfl) ⟨(Nat.le_of_ble_eq_true rfl), (Nat.le_of_ble_eq_true rfl)⟩ (fun H1 locs1 Wk1 => ?_)
  refine lv_aload_n hx hb dL_law_445 rfl (lv_at hl 2 rfl) ?_
  refine lw_callV (as := []) C Wk1 hl.1 dL_law_446 s_L_law_56 h2 rfl (MM_at (by decide)) ⟨_, rfl, rfl⟩ (Nat.le_of_ble_eq_true rfl) ⟨(Nat.le_of_ble_eq_true rfl), (Nat.le_of_ble_eq_true rfl)⟩ (fun H2 locs2 Wk2 => ?_)
  exact lv_icmp_eq (tgt := 1098) hx hb dL_law_449 (by decide) (fun _ => kk k2 H2 locs2 h3 Wk2) (fun h => absurd rfl h)
theorem law_10 (C : Cx M_L_law p s m #[.ref b0] meth' c D tI tZ sd A) {L : Nat} {xs : Nat → Int32} (hX : va_X b0 L xs s s.heap) (hbl : b0 < s.heap.size) (hbA : ¬ A b0) {G : Mem} (hR : Rel G) (Wk : Wd D tI tZ ad sd A 101 (MM G) s H locs) {i : Nat} (hi : i + 6 ≤ L) (hL : L ≤ 384) (hl : lv_has ls 4 [(0, .ref b0), (1, .ref (ad 0)), (2, .ref (ad 86)), (3, .int (iI (i : Int)))]) (kk : ∀ (G1 : Mem) (H1 : Heap) (locs1 : List Loc), Rel G1 → Wd D tI tZ ad sd A 101 (MM G1) s H1 locs1 → W p l e room_1 s m #[.ref b0] below meth c H1 locs1 101 1672 Q (F0 m 1098 ls [])) : W p l e room_1 s m #[.ref b0] below meth c H locs 101 1672 Q (F0 m 454 ls []) := by
  obtain ⟨hx, hb, -⟩ := id C
  have q1 : vp_in (iI (i : Int) + iI ((1 : Nat) : Int)) L := vp_s (by omega) hL
  have q2 : vp_in (iI (i : Int) + iI ((2 : Nat) : Int)) L := vp_s (by omega) hL
  have q3 : vp_in (iI (i : Int) + iI ((3 : Nat) : Int)) L := vp_s (by omega) hL
  obtain ⟨v, g2, k2, h1, h2, h3⟩ := cs_of hR (R32_toInt (xs (iI (i : Int) + iI ((1 : Nat) : Int)).toNatClampNeg)) (R32_toInt (xs (iI (i : Int) + iI ((2 : Nat) : Int)).toNatClampNeg)) (R32_toInt (xs (iI (i : Int) + iI ((3 : Nat) : Int)).toNatClampNeg))
  simp only [← iI_of] at h1 h2
  refine lv_aload_n hx hb dL_law_454 rfl (lv_at hl 1 rfl) ?_
  refine lv_aload_n hx hb dL_law_455 rfl (lv_at hl 0 rfl) ?_
  refine lv_iload_n hx hb dL_law_456 rfl (lv_at hl 3 rfl) ?_
  refine lv_iconst (v := iI ((1 : Nat) : Int)) hx hb dL_law_457 rfl ?_
  refine lv_iadd hx hb dL_law_458 ?_
  refine va_sld hx hb hX hbl hbA Wk.2.2.1 q1 dL_law_459 ?_
  refine lv_aload_n hx hb dL_law_460 rfl (lv_at hl 0 rfl) ?_
  refine lv_iload_n hx hb dL_law_461 rfl (lv_at hl 3 rfl) ?_
  refine lv_iconst (v := iI ((2 : Nat) : Int)) hx hb dL_law_462 rfl ?_
  refine lv_iadd hx hb dL_law_463 ?_
  refine va_sld hx hb hX hbl hbA Wk.2.2.1 q2 dL_law_464 ?_
  refine lv_aload_n hx hb dL_law_465 rfl (lv_at hl 0 rfl) ?_
  refine lv_iload_n hx hb dL_law_466 rfl (lv_at hl 3 rfl) ?_
  refine lv_iconst (v := iI ((3 : Nat) : Int)) hx hb dL_law_467 rfl ?_
  refine lv_iadd hx hb dL_law_468 ?_
  refine va_sld hx hb hX hbl hbA Wk.2.2.1 q3 dL_law_469 ?_
  refine lw_callV (as := [.int _, .int _, .int _]) C Wk hl.1 dL_law_470 s_L_law_57 h1 rfl (MM_at (by decide)) ⟨_, rfl, rfl⟩ (Nat.le_of_ble_eq_true rfl) ⟨(Nat.le_of_ble_eq_true rfl), (Nat.le_of_ble_eq_true rfl)⟩ (fun H1 locs1 Wk1 => ?_)
  refine lv_aload_n hx hb dL_law_473 rfl (lv_at hl 2 rfl) ?_
  refine lv_aload_n hx hb dL_law_474 rfl (lv_at hl 0 rfl) ?_
  refine lv_iload_n hx hb dL_law_475 rfl (lv_at hl 3 rfl) ?_
  refine lv_iconst (v := iI ((1 : Nat) : Int)) hx hb dL_law_476 rfl ?_
  refine lv_iadd hx hb dL_law_477 ?_
  refine va_sld hx hb hX hbl hbA Wk1.2.2.1 q1 dL_law_478 ?_
  refine lv_aload_n hx hb dL_law_479 rfl (lv_at hl 0 rfl) ?_
  refine lv_iload_n hx hb dL_law_480 rfl (lv_at hl 3 rfl) ?_
  refine lv_iconst (v := iI ((2 : Nat) : Int)) hx hb dL_law_481 rfl ?_
  refine lv_iadd hx hb dL_law_482 ?_
  refine va_sld hx hb hX hbl hbA Wk1.2.2.1 q2 dL_law_483 ?_
  refine lv_aload_n hx hb dL_law_484 rfl (lv_at hl 0 rfl) ?_
  refine lv_iload_n hx hb dL_law_485 rfl (lv_at hl 3 rfl) ?_
  refine lv_iconst (v := iI ((3 : Nat) : Int)) hx hb dL_law_486 rfl ?_
  refine lv_iadd hx hb dL_law_487 ?_
  refine va_sld hx hb hX hbl hbA Wk1.2.2.1 q3 dL_law_488 ?_
  refine lw_callV (as := [.int _, .int _, .int _]) C Wk1 hl.1 dL_law_489 s_L_law_61 h2 rfl (MM_at (by decide)) ⟨_, rfl, rfl⟩ (Nat.le_of_ble_eq_true rfl) ⟨(Nat.le_of_ble_eq_true rfl), (Nat.le_of_ble_eq_true rfl)⟩ (fun H2 locs2 Wk2 => ?_)
  exact lv_icmp_eq (tgt := 1098) hx hb dL_law_492 (by decide) (fun _ => kk k2 H2 locs2 h3 Wk2) (fun h => absurd rfl h)
theorem law_11 (C : Cx M_L_law p s m #[.ref b0] meth' c D tI tZ sd A) {L : Nat} {xs : Nat → Int32} (hX : va_X b0 L xs s s.heap) (hbl : b0 < s.heap.size) (hbA : ¬ A b0) {G : Mem} (hR : Rel G) (Wk : Wd D tI tZ ad sd A 101 (MM G) s H locs) {i : Nat} (hi : i + 6 ≤ L) (hL : L ≤ 384) (hl : lv_has ls 4 [(0, .ref b0), (1, .ref (ad 0)), (2, .ref (ad 86)), (3, .int (iI (i : Int)))]) (kk : ∀ (G1 : Mem) (H1 : Heap) (locs1 : List Loc), Rel G1 → Wd D tI tZ ad sd A 101 (MM G1) s H1 locs1 → W p l e room_1 s m #[.ref b0] below meth c H1 locs1 101 1672 Q (F0 m 1098 ls [])) : W p l e room_1 s m #[.ref b0] below meth c H locs 101 1672 Q (F0 m 497 ls []) := by
  obtain ⟨hx, hb, -⟩ := id C
  have q1 : vp_in (iI (i : Int) + iI ((1 : Nat) : Int)) L := vp_s (by omega) hL
  have q2 : vp_in (iI (i : Int) + iI ((2 : Nat) : Int)) L := vp_s (by omega) hL
  have q3 : vp_in (iI (i : Int) + iI ((3 : Nat) : Int)) L := vp_s (by omega) hL
  obtain ⟨v, g2, k2, h1, h2, h3⟩ := cs_limit hR (R32_toInt (xs (iI (i : Int) + iI ((1 : Nat) : Int)).toNatClampNeg)) (R32_toInt (xs (iI (i : Int) + iI ((2 : Nat) : Int)).toNatClampNeg)) (R32_toInt (xs (iI (i : Int) + iI ((3 : Nat) : Int)).toNatClampNeg))
  simp only [← iI_of] at h1 h2
  refine lv_aload_n hx hb dL_law_497 rfl (lv_at hl 1 rfl) ?_
  refine lv_aload_n hx hb dL_law_498 rfl (lv_at hl 0 rfl) ?_
  refine lv_iload_n hx hb dL_law_499 rfl (lv_at hl 3 rfl) ?_
  refine lv_iconst (v := iI ((1 : Nat) : Int)) hx hb dL_law_500 rfl ?_
  refine lv_iadd hx hb dL_law_501 ?_
  refine va_sld hx hb hX hbl hbA Wk.2.2.1 q1 dL_law_502 ?_
  refine lv_aload_n hx hb dL_law_503 rfl (lv_at hl 0 rfl) ?_
  refine lv_iload_n hx hb dL_law_504 rfl (lv_at hl 3 rfl) ?_
  refine lv_iconst (v := iI ((2 : Nat) : Int)) hx hb dL_law_505 rfl ?_
  refine lv_iadd hx hb dL_law_506 ?_
  refine va_sld hx hb hX hbl hbA Wk.2.2.1 q2 dL_law_507 ?_
  refine lv_aload_n hx hb dL_law_508 rfl (lv_at hl 0 rfl) ?_
  refine lv_iload_n hx hb dL_law_509 rfl (lv_at hl 3 rfl) ?_
  refine lv_iconst (v := iI ((3 : Nat) : Int)) hx hb dL_law_510 rfl ?_
  refine lv_iadd hx hb dL_law_511 ?_
  refine va_sld hx hb hX hbl hbA Wk.2.2.1 q3 dL_law_512 ?_
  refine lw_callV (as := [.int _, .int _, .int _]) C Wk hl.1 dL_law_513 s_L_law_62 h1 rfl (MM_at (by decide)) ⟨_, rfl, rfl⟩ (Nat.le_of_ble_eq_true rfl) ⟨(Nat.le_of_ble_eq_true rfl), (Nat.le_of_ble_eq_true rfl)⟩ (fun H1 locs1 Wk1 => ?_)
  refine lv_aload_n hx hb dL_law_516 rfl (lv_at hl 2 rfl) ?_
  refine lv_aload_n hx hb dL_law_517 rfl (lv_at hl 0 rfl) ?_
  refine lv_iload_n hx hb dL_law_518 rfl (lv_at hl 3 rfl) ?_
  refine lv_iconst (v := iI ((1 : Nat) : Int)) hx hb dL_law_519 rfl ?_
  refine lv_iadd hx hb dL_law_520 ?_
  refine va_sld hx hb hX hbl hbA Wk1.2.2.1 q1 dL_law_521 ?_
  refine lv_aload_n hx hb dL_law_522 rfl (lv_at hl 0 rfl) ?_
  refine lv_iload_n hx hb dL_law_523 rfl (lv_at hl 3 rfl) ?_
  refine lv_iconst (v := iI ((2 : Nat) : Int)) hx hb dL_law_524 rfl ?_
  refine lv_iadd hx hb dL_law_525 ?_
  refine va_sld hx hb hX hbl hbA Wk1.2.2.1 q2 dL_law_526 ?_
  refine lv_aload_n hx hb dL_law_527 rfl (lv_at hl 0 rfl) ?_
  refine lv_iload_n hx hb dL_law_528 rfl (lv_at hl 3 rfl) ?_
  refine lv_iconst (v := iI ((3 : Nat) : Int)) hx hb dL_law_529 rfl ?_
  refine lv_iadd hx hb dL_law_530 ?_
  refine va_sld hx hb hX hbl hbA Wk1.2.2.1 q3 dL_law_531 ?_
  refine lw_callV (as := [.int _, .int _, .int _]) C Wk1 hl.1 dL_law_532 s_L_law_65 h2 rfl (MM_at (by decide)) ⟨_, rfl, rfl⟩ (Nat.le_of_ble_eq_true rfl) ⟨(Nat.le_of_ble_eq_true rfl), (Nat.le_of_ble_eq_true rfl)⟩ (fun H2 locs2 Wk2 => ?_)
  exact lv_icmp_eq (tgt := 1098) hx hb dL_law_535 (by decide) (fun _ => kk k2 H2 locs2 h3 Wk2) (fun h => absurd rfl h)
theorem law_12 (C : Cx M_L_law p s m #[.ref b0] meth' c D tI tZ sd A) {L : Nat} {xs : Nat → Int32} (hX : va_X b0 L xs s s.heap) (hbl : b0 < s.heap.size) (hbA : ¬ A b0) {G : Mem} (hR : Rel G) (Wk : Wd D tI tZ ad sd A 101 (MM G) s H locs) {i : Nat} (hi : i + 6 ≤ L) (hL : L ≤ 384) (hl : lv_has ls 4 [(0, .ref b0), (1, .ref (ad 0)), (2, .ref (ad 86)), (3, .int (iI (i : Int)))]) (kk : ∀ (G1 : Mem) (H1 : Heap) (locs1 : List Loc), Rel G1 → Wd D tI tZ ad sd A 101 (MM G1) s H1 locs1 → W p l e room_1 s m #[.ref b0] below meth c H1 locs1 101 1672 Q (F0 m 1098 ls [])) : W p l e room_1 s m #[.ref b0] below meth c H locs 101 1672 Q (F0 m 540 ls []) := by
  obtain ⟨hx, hb, -⟩ := id C
  have q1 : vp_in (iI (i : Int) + iI ((1 : Nat) : Int)) L := vp_s (by omega) hL
  have q2 : vp_in (iI (i : Int) + iI ((2 : Nat) : Int)) L := vp_s (by omega) hL
  obtain ⟨v, g2, k2, h1, h2, h3⟩ := cs_where hR (R32_toInt (xs (iI (i : Int) + iI ((1 : Nat) : Int)).toNatClampNeg)) (R32_toInt (xs (iI (i : Int) + iI ((2 : Nat) : Int)).toNatClampNeg))
  simp only [← iI_of] at h1 h2
  refine lv_aload_n hx hb dL_law_540 rfl (lv_at hl 1 rfl) ?_
  refine lv_aload_n hx hb dL_law_541 rfl (lv_at hl 0 rfl) ?_
  refine lv_iload_n hx hb dL_law_542 rfl (lv_at hl 3 rfl) ?_
  refine lv_iconst (v := iI ((1 : Nat) : Int)) hx hb dL_law_543 rfl ?_
  refine lv_iadd hx hb dL_law_544 ?_
  refine va_sld hx hb hX hbl hbA Wk.2.2.1 q1 dL_law_545 ?_
  refine lv_aload_n hx hb dL_law_546 rfl (lv_at hl 0 rfl) ?_
  refine lv_iload_n hx hb dL_law_547 rfl (lv_at hl 3 rfl) ?_
  refine lv_iconst (v := iI ((2 : Nat) : Int)) hx hb dL_law_548 rfl ?_
  refine lv_iadd hx hb dL_law_549 ?_
  refine va_sld hx hb hX hbl hbA Wk.2.2.1 q2 dL_law_550 ?_
  refine lw_callV (as := [.int _, .int _]) C Wk hl.1 dL_law_551 s_L_law_66 h1 rfl (MM_at (by decide)) ⟨_, rfl, rfl⟩ (Nat.le_of_ble_eq_true rfl) ⟨(Nat.le_of_ble_eq_true rfl), (Nat.le_of_ble_eq_true rfl)⟩ (fun H1 locs1 Wk1 => ?_)
  refine lv_aload_n hx hb dL_law_554 rfl (lv_at hl 2 rfl) ?_
  refine lv_aload_n hx hb dL_law_555 rfl (lv_at hl 0 rfl) ?_
  refine lv_iload_n hx hb dL_law_556 rfl (lv_at hl 3 rfl) ?_
  refine lv_iconst (v := iI ((1 : Nat) : Int)) hx hb dL_law_557 rfl ?_
  refine lv_iadd hx hb dL_law_558 ?_
  refine va_sld hx hb hX hbl hbA Wk1.2.2.1 q1 dL_law_559 ?_
  refine lv_aload_n hx hb dL_law_560 rfl (lv_at hl 0 rfl) ?_
  refine lv_iload_n hx hb dL_law_561 rfl (lv_at hl 3 rfl) ?_
  refine lv_iconst (v := iI ((2 : Nat) : Int)) hx hb dL_law_562 rfl ?_
  refine lv_iadd hx hb dL_law_563 ?_
  refine va_sld hx hb hX hbl hbA Wk1.2.2.1 q2 dL_law_564 ?_
  refine lw_callV (as := [.int _, .int _]) C Wk1 hl.1 dL_law_565 s_L_law_69 h2 rfl (MM_at (by decide)) ⟨_, rfl, rfl⟩ (Nat.le_of_ble_eq_true rfl) ⟨(Nat.le_of_ble_eq_true rfl), (Nat.le_of_ble_eq_true rfl)⟩ (fun H2 locs2 Wk2 => ?_)
  exact lv_icmp_eq (tgt := 1098) hx hb dL_law_568 (by decide) (fun _ => kk k2 H2 locs2 h3 Wk2) (fun h => absurd rfl h)
theorem law_13 (C : Cx M_L_law p s m #[.ref b0] meth' c D tI tZ sd A) {L : Nat} {xs : Nat → Int32} (hX : va_X b0 L xs s s.heap) (hbl : b0 < s.heap.size) (hbA : ¬ A b0) {G : Mem} (hR : Rel G) (Wk : Wd D tI tZ ad sd A 101 (MM G) s H locs) {i : Nat} (hi : i + 6 ≤ L) (hL : L ≤ 384) (hl : lv_has ls 4 [(0, .ref b0), (1, .ref (ad 0)), (2, .ref (ad 86)), (3, .int (iI (i : Int)))]) (kk : ∀ (G1 : Mem) (H1 : Heap) (locs1 : List Loc), Rel G1 → Wd D tI tZ ad sd A 101 (MM G1) s H1 locs1 → W p l e room_1 s m #[.ref b0] below meth c H1 locs1 101 1672 Q (F0 m 1098 ls [])) : W p l e room_1 s m #[.ref b0] below meth c H locs 101 1672 Q (F0 m 573 ls []) := by
  obtain ⟨hx, hb, -⟩ := id C
  have q1 : vp_in (iI (i : Int) + iI ((1 : Nat) : Int)) L := vp_s (by omega) hL
  obtain ⟨v, g2, k2, h1, h2, h3⟩ := cs_there hR (R32_toInt (xs (iI (i : Int) + iI ((1 : Nat) : Int)).toNatClampNeg))
  simp only [← iI_of] at h1 h2
  refine lv_aload_n hx hb dL_law_573 rfl (lv_at hl 1 rfl) ?_
  refine lv_aload_n hx hb dL_law_574 rfl (lv_at hl 0 rfl) ?_
  refine lv_iload_n hx hb dL_law_575 rfl (lv_at hl 3 rfl) ?_
  refine lv_iconst (v := iI ((1 : Nat) : Int)) hx hb dL_law_576 rfl ?_
  refine lv_iadd hx hb dL_law_577 ?_
  refine va_sld hx hb hX hbl hbA Wk.2.2.1 q1 dL_law_578 ?_
  refine lw_callV (as := [.int _]) C Wk hl.1 dL_law_579 s_L_law_70 h1 rfl (MM_at (by decide)) ⟨_, rfl, rfl⟩ (Nat.le_of_ble_eq_true rfl) ⟨(Nat.le_of_ble_eq_true rfl), (Nat.le_of_ble_eq_true rfl)⟩ (fun H1 locs1 Wk1 => ?_)
  refine lv_aload_n hx hb dL_law_582 rfl (lv_at hl 2 rfl) ?_
  refine lv_aload_n hx hb dL_law_583 rfl (lv_at hl 0 rfl) ?_
  refine lv_iload_n hx hb dL_law_584 rfl (lv_at hl 3 rfl) ?_
  refine lv_iconst (v := iI ((1 : Nat) : Int)) hx hb dL_law_585 rfl ?_
  refine lv_iadd hx hb dL_law_586 ?_
  refine va_sld hx hb hX hbl hbA Wk1.2.2.1 q1 dL_law_587 ?_
  refine lw_callV (as := [.int _]) C Wk1 hl.1 dL_law_588 s_L_law_73 h2 rfl (MM_at (by decide)) ⟨_, rfl, rfl⟩ (Nat.le_of_ble_eq_true rfl) ⟨(Nat.le_of_ble_eq_true rfl), (Nat.le_of_ble_eq_true rfl)⟩ (fun H2 locs2 Wk2 => ?_)
  exact lv_icmp_eq (tgt := 1098) hx hb dL_law_591 (by decide) (fun _ => kk k2 H2 locs2 h3 Wk2) (fun h => absurd rfl h)
theorem law_14 (C : Cx M_L_law p s m #[.ref b0] meth' c D tI tZ sd A) {L : Nat} {xs : Nat → Int32} (hX : va_X b0 L xs s s.heap) (hbl : b0 < s.heap.size) (hbA : ¬ A b0) {G : Mem} (hR : Rel G) (Wk : Wd D tI tZ ad sd A 101 (MM G) s H locs) {i : Nat} (hi : i + 6 ≤ L) (hL : L ≤ 384) (hl : lv_has ls 4 [(0, .ref b0), (1, .ref (ad 0)), (2, .ref (ad 86)), (3, .int (iI (i : Int)))]) (kk : ∀ (G1 : Mem) (H1 : Heap) (locs1 : List Loc), Rel G1 → Wd D tI tZ ad sd A 101 (MM G1) s H1 locs1 → W p l e room_1 s m #[.ref b0] below meth c H1 locs1 101 1672 Q (F0 m 1098 ls [])) : W p l e room_1 s m #[.ref b0] below meth c H locs 101 1672 Q (F0 m 596 ls []) := by
  obtain ⟨hx, hb, -⟩ := id C
  have q1 : vp_in (iI (i : Int) + iI ((1 : Nat) : Int)) L := vp_s (by omega) hL
  obtain ⟨v, g2, k2, h1, h2, h3⟩ := cs_soonest hR (R32_toInt (xs (iI (i : Int) + iI ((1 : Nat) : Int)).toNatClampNeg))
  simp only [← iI_of] at h1 h2
  refine lv_aload_n hx hb dL_law_596 rfl (lv_at hl 1 rfl) ?_
  refine lv_aload_n hx hb dL_law_597 rfl (lv_at hl 0 rfl) ?_
  refine lv_iload_n hx hb dL_law_598 rfl (lv_at hl 3 rfl) ?_
  refine lv_iconst (v := iI ((1 : Nat) : Int)) hx hb dL_law_599 rfl ?_
  refine lv_iadd hx hb dL_law_600 ?_
  refine va_sld hx hb hX hbl hbA Wk.2.2.1 q1 dL_law_601 ?_
  refine lw_callV (as := [.int _]) C Wk hl.1 dL_law_602 s_L_law_74 h1 rfl (MM_at (by decide)) ⟨_, rfl, rfl⟩ (Nat.le_of_ble_eq_true rfl) ⟨(Nat.le_of_ble_eq_true rfl), (Nat.le_of_ble_eq_true rfl)⟩ (fun H1 locs1 Wk1 => ?_)
  refine lv_aload_n hx hb dL_law_605 rfl (lv_at hl 2 rfl) ?_
  refine lv_aload_n hx hb dL_law_606 rfl (lv_at hl 0 rfl) ?_
  refine lv_iload_n hx hb dL_law_607 rfl (lv_at hl 3 rfl) ?_
  refine lv_iconst (v := iI ((1 : Nat) : Int)) hx hb dL_law_608 rfl ?_
  refine lv_iadd hx hb dL_law_609 ?_
  refine va_sld hx hb hX hbl hbA Wk1.2.2.1 q1 dL_law_610 ?_
  refine lw_callV (as := [.int _]) C Wk1 hl.1 dL_law_611 s_L_law_77 h2 rfl (MM_at (by decide)) ⟨_, rfl, rfl⟩ (Nat.le_of_ble_eq_true rfl) ⟨(Nat.le_of_ble_eq_true rfl), (Nat.le_of_ble_eq_true rfl)⟩ (fun H2 locs2 Wk2 => ?_)
  exact lv_icmp_eq (tgt := 1098) hx hb dL_law_614 (by decide) (fun _ => kk k2 H2 locs2 h3 Wk2) (fun h => absurd rfl h)
theorem law_15 (C : Cx M_L_law p s m #[.ref b0] meth' c D tI tZ sd A) {L : Nat} {xs : Nat → Int32} (hX : va_X b0 L xs s s.heap) (hbl : b0 < s.heap.size) (hbA : ¬ A b0) {G : Mem} (hR : Rel G) (Wk : Wd D tI tZ ad sd A 101 (MM G) s H locs) {i : Nat} (hi : i + 6 ≤ L) (hL : L ≤ 384) (hl : lv_has ls 4 [(0, .ref b0), (1, .ref (ad 0)), (2, .ref (ad 86)), (3, .int (iI (i : Int)))]) (kk : ∀ (G1 : Mem) (H1 : Heap) (locs1 : List Loc), Rel G1 → Wd D tI tZ ad sd A 101 (MM G1) s H1 locs1 → W p l e room_1 s m #[.ref b0] below meth c H1 locs1 101 1672 Q (F0 m 1098 ls [])) : W p l e room_1 s m #[.ref b0] below meth c H locs 101 1672 Q (F0 m 619 ls []) := by
  obtain ⟨hx, hb, -⟩ := id C
  have q1 : vp_in (iI (i : Int) + iI ((1 : Nat) : Int)) L := vp_s (by omega) hL
  obtain ⟨v, g2, k2, h1, h2, h3⟩ := cs_start hR (R32_toInt (xs (iI (i : Int) + iI ((1 : Nat) : Int)).toNatClampNeg))
  simp only [← iI_of] at h1 h2
  refine lv_aload_n hx hb dL_law_619 rfl (lv_at hl 1 rfl) ?_
  refine lv_aload_n hx hb dL_law_620 rfl (lv_at hl 0 rfl) ?_
  refine lv_iload_n hx hb dL_law_621 rfl (lv_at hl 3 rfl) ?_
  refine lv_iconst (v := iI ((1 : Nat) : Int)) hx hb dL_law_622 rfl ?_
  refine lv_iadd hx hb dL_law_623 ?_
  refine va_sld hx hb hX hbl hbA Wk.2.2.1 q1 dL_law_624 ?_
  refine lw_callV (as := [.int _]) C Wk hl.1 dL_law_625 s_L_law_78 h1 rfl (MM_at (by decide)) ⟨_, rfl, rfl⟩ (Nat.le_of_ble_eq_true rfl) ⟨(Nat.le_of_ble_eq_true rfl), (Nat.le_of_ble_eq_true rfl)⟩ (fun H1 locs1 Wk1 => ?_)
  refine lv_aload_n hx hb dL_law_628 rfl (lv_at hl 2 rfl) ?_
  refine lv_aload_n hx hb dL_law_629 rfl (lv_at hl 0 rfl) ?_
  refine lv_iload_n hx hb dL_law_630 rfl (lv_at hl 3 rfl) ?_
  refine lv_iconst (v := iI ((1 : Nat) : Int)) hx hb dL_law_631 rfl ?_
  refine lv_iadd hx hb dL_law_632 ?_
  refine va_sld hx hb hX hbl hbA Wk1.2.2.1 q1 dL_law_633 ?_
  refine lw_callV (as := [.int _]) C Wk1 hl.1 dL_law_634 s_L_law_81 h2 rfl (MM_at (by decide)) ⟨_, rfl, rfl⟩ (Nat.le_of_ble_eq_true rfl) ⟨(Nat.le_of_ble_eq_true rfl), (Nat.le_of_ble_eq_true rfl)⟩ (fun H2 locs2 Wk2 => ?_)
  exact lv_icmp_eq (tgt := 1098) hx hb dL_law_637 (by decide) (fun _ => kk k2 H2 locs2 h3 Wk2) (fun h => absurd rfl h)
theorem law_16 (C : Cx M_L_law p s m #[.ref b0] meth' c D tI tZ sd A) {L : Nat} {xs : Nat → Int32} (hX : va_X b0 L xs s s.heap) (hbl : b0 < s.heap.size) (hbA : ¬ A b0) {G : Mem} (hR : Rel G) (Wk : Wd D tI tZ ad sd A 101 (MM G) s H locs) {i : Nat} (hi : i + 6 ≤ L) (hL : L ≤ 384) (hl : lv_has ls 4 [(0, .ref b0), (1, .ref (ad 0)), (2, .ref (ad 86)), (3, .int (iI (i : Int)))]) (kk : ∀ (G1 : Mem) (H1 : Heap) (locs1 : List Loc), Rel G1 → Wd D tI tZ ad sd A 101 (MM G1) s H1 locs1 → W p l e room_1 s m #[.ref b0] below meth c H1 locs1 101 1672 Q (F0 m 1098 ls [])) : W p l e room_1 s m #[.ref b0] below meth c H locs 101 1672 Q (F0 m 642 ls []) := by
  obtain ⟨hx, hb, -⟩ := id C
  have q1 : vp_in (iI (i : Int) + iI ((1 : Nat) : Int)) L := vp_s (by omega) hL
  obtain ⟨v, g2, k2, h1, h2, h3⟩ := cs_speed hR (R32_toInt (xs (iI (i : Int) + iI ((1 : Nat) : Int)).toNatClampNeg))
  simp only [← iI_of] at h1 h2
  refine lv_aload_n hx hb dL_law_642 rfl (lv_at hl 1 rfl) ?_
  refine lv_aload_n hx hb dL_law_643 rfl (lv_at hl 0 rfl) ?_
  refine lv_iload_n hx hb dL_law_644 rfl (lv_at hl 3 rfl) ?_
  refine lv_iconst (v := iI ((1 : Nat) : Int)) hx hb dL_law_645 rfl ?_
  refine lv_iadd hx hb dL_law_646 ?_
  refine va_sld hx hb hX hbl hbA Wk.2.2.1 q1 dL_law_647 ?_
  refine lw_callV (as := [.int _]) C Wk hl.1 dL_law_648 s_L_law_82 h1 rfl (MM_at (by decide)) ⟨_, rfl, rfl⟩ (Nat.le_of_ble_eq_true rfl) ⟨(Nat.le_of_ble_eq_true rfl), (Nat.le_of_ble_eq_true rfl)⟩ (fun H1 locs1 Wk1 => ?_)
  refine lv_aload_n hx hb dL_law_651 rfl (lv_at hl 2 rfl) ?_
  refine lv_aload_n hx hb dL_law_652 rfl (lv_at hl 0 rfl) ?_
  refine lv_iload_n hx hb dL_law_653 rfl (lv_at hl 3 rfl) ?_
  refine lv_iconst (v := iI ((1 : Nat) : Int)) hx hb dL_law_654 rfl ?_
  refine lv_iadd hx hb dL_law_655 ?_
  refine va_sld hx hb hX hbl hbA Wk1.2.2.1 q1 dL_law_656 ?_
  refine lw_callV (as := [.int _]) C Wk1 hl.1 dL_law_657 s_L_law_85 h2 rfl (MM_at (by decide)) ⟨_, rfl, rfl⟩ (Nat.le_of_ble_eq_true rfl) ⟨(Nat.le_of_ble_eq_true rfl), (Nat.le_of_ble_eq_true rfl)⟩ (fun H2 locs2 Wk2 => ?_)
  exact lv_icmp_eq (tgt := 1098) hx hb dL_law_660 (by decide) (fun _ => kk k2 H2 locs2 h3 Wk2) (fun h => absurd rfl h)
theorem law_17 (C : Cx M_L_law p s m #[.ref b0] meth' c D tI tZ sd A) {L : Nat} {xs : Nat → Int32} (hX : va_X b0 L xs s s.heap) (hbl : b0 < s.heap.size) (hbA : ¬ A b0) {G : Mem} (hR : Rel G) (Wk : Wd D tI tZ ad sd A 101 (MM G) s H locs) {i : Nat} (hi : i + 6 ≤ L) (hL : L ≤ 384) (hl : lv_has ls 4 [(0, .ref b0), (1, .ref (ad 0)), (2, .ref (ad 86)), (3, .int (iI (i : Int)))]) (kk : ∀ (G1 : Mem) (H1 : Heap) (locs1 : List Loc), Rel G1 → Wd D tI tZ ad sd A 101 (MM G1) s H1 locs1 → W p l e room_1 s m #[.ref b0] below meth c H1 locs1 101 1672 Q (F0 m 1098 ls [])) : W p l e room_1 s m #[.ref b0] below meth c H locs 101 1672 Q (F0 m 665 ls []) := by
  obtain ⟨hx, hb, -⟩ := id C
  obtain ⟨v, g2, k2, h1, h2, h3⟩ := cs_stop hR 
  refine lv_aload_n hx hb dL_law_665 rfl (lv_at hl 1 rfl) ?_
  refine lw_callV (as := []) C Wk hl.1 dL_law_666 s_L_law_86 h1 rfl (MM_at (by decide)) ⟨_, rfl, rfl⟩ (Nat.le_of_ble_eq_true rfl) ⟨(Nat.le_of_ble_eq_true rfl), (Nat.le_of_ble_eq_true rfl)⟩ (fun H1 locs1 Wk1 => ?_)
  refine lv_aload_n hx hb dL_law_669 rfl (lv_at hl 2 rfl) ?_
  refine lw_callV (as := []) C Wk1 hl.1 dL_law_670 s_L_law_89 h2 rfl (MM_at (by decide)) ⟨_, rfl, rfl⟩ (Nat.le_of_ble_eq_true rfl) ⟨(Nat.le_of_ble_eq_true rfl), (Nat.le_of_ble_eq_true rfl)⟩ (fun H2 locs2 Wk2 => ?_)
  exact lv_icmp_eq (tgt := 1098) hx hb dL_law_673 (by decide) (fun _ => kk k2 H2 locs2 h3 Wk2) (fun h => absurd rfl h)
theorem law_18 (C : Cx M_L_law p s m #[.ref b0] meth' c D tI tZ sd A) {L : Nat} {xs : Nat → Int32} (hX : va_X b0 L xs s s.heap) (hbl : b0 < s.heap.size) (hbA : ¬ A b0) {G : Mem} (hR : Rel G) (Wk : Wd D tI tZ ad sd A 101 (MM G) s H locs) {i : Nat} (hi : i + 6 ≤ L) (hL : L ≤ 384) (hl : lv_has ls 4 [(0, .ref b0), (1, .ref (ad 0)), (2, .ref (ad 86)), (3, .int (iI (i : Int)))]) (kk : ∀ (G1 : Mem) (H1 : Heap) (locs1 : List Loc), Rel G1 → Wd D tI tZ ad sd A 101 (MM G1) s H1 locs1 → W p l e room_1 s m #[.ref b0] below meth c H1 locs1 101 1672 Q (F0 m 1098 ls [])) : W p l e room_1 s m #[.ref b0] below meth c H locs 101 1672 Q (F0 m 678 ls []) := by
  obtain ⟨hx, hb, -⟩ := id C
  have q1 : vp_in (iI (i : Int) + iI ((1 : Nat) : Int)) L := vp_s (by omega) hL
  have q2 : vp_in (iI (i : Int) + iI ((2 : Nat) : Int)) L := vp_s (by omega) hL
  obtain ⟨v, g2, k2, h1, h2, h3⟩ := cs_fined hR (R32_toInt (xs (iI (i : Int) + iI ((1 : Nat) : Int)).toNatClampNeg)) (R32_toInt (xs (iI (i : Int) + iI ((2 : Nat) : Int)).toNatClampNeg))
  simp only [← iI_of] at h1 h2
  refine lv_aload_n hx hb dL_law_678 rfl (lv_at hl 1 rfl) ?_
  refine lv_aload_n hx hb dL_law_679 rfl (lv_at hl 0 rfl) ?_
  refine lv_iload_n hx hb dL_law_680 rfl (lv_at hl 3 rfl) ?_
  refine lv_iconst (v := iI ((1 : Nat) : Int)) hx hb dL_law_681 rfl ?_
  refine lv_iadd hx hb dL_law_682 ?_
  refine va_sld hx hb hX hbl hbA Wk.2.2.1 q1 dL_law_683 ?_
  refine lv_aload_n hx hb dL_law_684 rfl (lv_at hl 0 rfl) ?_
  refine lv_iload_n hx hb dL_law_685 rfl (lv_at hl 3 rfl) ?_
  refine lv_iconst (v := iI ((2 : Nat) : Int)) hx hb dL_law_686 rfl ?_
  refine lv_iadd hx hb dL_law_687 ?_
  refine va_sld hx hb hX hbl hbA Wk.2.2.1 q2 dL_law_688 ?_
  refine lw_callV (as := [.int _, .int _]) C Wk hl.1 dL_law_689 s_L_law_90 h1 rfl (MM_at (by decide)) ⟨_, rfl, rfl⟩ (Nat.le_of_ble_eq_true rfl) ⟨(Nat.le_of_ble_eq_true rfl), (Nat.le_of_ble_eq_true rfl)⟩ (fun H1 locs1 Wk1 => ?_)
  refine lv_aload_n hx hb dL_law_692 rfl (lv_at hl 2 rfl) ?_
  refine lv_aload_n hx hb dL_law_693 rfl (lv_at hl 0 rfl) ?_
  refine lv_iload_n hx hb dL_law_694 rfl (lv_at hl 3 rfl) ?_
  refine lv_iconst (v := iI ((1 : Nat) : Int)) hx hb dL_law_695 rfl ?_
  refine lv_iadd hx hb dL_law_696 ?_
  refine va_sld hx hb hX hbl hbA Wk1.2.2.1 q1 dL_law_697 ?_
  refine lv_aload_n hx hb dL_law_698 rfl (lv_at hl 0 rfl) ?_
  refine lv_iload_n hx hb dL_law_699 rfl (lv_at hl 3 rfl) ?_
  refine lv_iconst (v := iI ((2 : Nat) : Int)) hx hb dL_law_700 rfl ?_
  refine lv_iadd hx hb dL_law_701 ?_
  refine va_sld hx hb hX hbl hbA Wk1.2.2.1 q2 dL_law_702 ?_
  refine lw_callV (as := [.int _, .int _]) C Wk1 hl.1 dL_law_703 s_L_law_93 h2 rfl (MM_at (by decide)) ⟨_, rfl, rfl⟩ (Nat.le_of_ble_eq_true rfl) ⟨(Nat.le_of_ble_eq_true rfl), (Nat.le_of_ble_eq_true rfl)⟩ (fun H2 locs2 Wk2 => ?_)
  exact lv_icmp_eq (tgt := 1098) hx hb dL_law_706 (by decide) (fun _ => kk k2 H2 locs2 h3 Wk2) (fun h => absurd rfl h)
theorem law_19 (C : Cx M_L_law p s m #[.ref b0] meth' c D tI tZ sd A) {L : Nat} {xs : Nat → Int32} (hX : va_X b0 L xs s s.heap) (hbl : b0 < s.heap.size) (hbA : ¬ A b0) {G : Mem} (hR : Rel G) (Wk : Wd D tI tZ ad sd A 101 (MM G) s H locs) {i : Nat} (hi : i + 6 ≤ L) (hL : L ≤ 384) (hl : lv_has ls 4 [(0, .ref b0), (1, .ref (ad 0)), (2, .ref (ad 86)), (3, .int (iI (i : Int)))]) (kk : ∀ (G1 : Mem) (H1 : Heap) (locs1 : List Loc), Rel G1 → Wd D tI tZ ad sd A 101 (MM G1) s H1 locs1 → W p l e room_1 s m #[.ref b0] below meth c H1 locs1 101 1672 Q (F0 m 1098 ls [])) : W p l e room_1 s m #[.ref b0] below meth c H locs 101 1672 Q (F0 m 711 ls []) := by
  obtain ⟨hx, hb, -⟩ := id C
  have q1 : vp_in (iI (i : Int) + iI ((1 : Nat) : Int)) L := vp_s (by omega) hL
  have q2 : vp_in (iI (i : Int) + iI ((2 : Nat) : Int)) L := vp_s (by omega) hL
  have q3 : vp_in (iI (i : Int) + iI ((3 : Nat) : Int)) L := vp_s (by omega) hL
  obtain ⟨v, g2, k2, h1, h2, h3⟩ := cs_toBed hR (R32_toInt (xs (iI (i : Int) + iI ((1 : Nat) : Int)).toNatClampNeg)) (R32_toInt (xs (iI (i : Int) + iI ((2 : Nat) : Int)).toNatClampNeg)) (R32_toInt (xs (iI (i : Int) + iI ((3 : Nat) : Int)).toNatClampNeg))
  simp only [← iI_of] at h1 h2
  refine lv_aload_n hx hb dL_law_711 rfl (lv_at hl 1 rfl) ?_
  refine lv_aload_n hx hb dL_law_712 rfl (lv_at hl 0 rfl) ?_
  refine lv_iload_n hx hb dL_law_713 rfl (lv_at hl 3 rfl) ?_
  refine lv_iconst (v := iI ((1 : Nat) : Int)) hx hb dL_law_714 rfl ?_
  refine lv_iadd hx hb dL_law_715 ?_
  refine va_sld hx hb hX hbl hbA Wk.2.2.1 q1 dL_law_716 ?_
  refine lv_aload_n hx hb dL_law_717 rfl (lv_at hl 0 rfl) ?_
  refine lv_iload_n hx hb dL_law_718 rfl (lv_at hl 3 rfl) ?_
  refine lv_iconst (v := iI ((2 : Nat) : Int)) hx hb dL_law_719 rfl ?_
  refine lv_iadd hx hb dL_law_720 ?_
  refine va_sld hx hb hX hbl hbA Wk.2.2.1 q2 dL_law_721 ?_
  refine lv_aload_n hx hb dL_law_722 rfl (lv_at hl 0 rfl) ?_
  refine lv_iload_n hx hb dL_law_723 rfl (lv_at hl 3 rfl) ?_
  refine lv_iconst (v := iI ((3 : Nat) : Int)) hx hb dL_law_724 rfl ?_
  refine lv_iadd hx hb dL_law_725 ?_
  refine va_sld hx hb hX hbl hbA Wk.2.2.1 q3 dL_law_726 ?_
  refine lw_callV (as := [.int _, .int _, .int _]) C Wk hl.1 dL_law_727 s_L_law_94 h1 rfl (MM_at (by decide)) ⟨_, rfl, rfl⟩ (Nat.le_of_ble_eq_true rfl) ⟨(Nat.le_of_ble_eq_true rfl), (Nat.le_of_ble_eq_true rfl)⟩ (fun H1 locs1 Wk1 => ?_)
  refine lv_aload_n hx hb dL_law_730 rfl (lv_at hl 2 rfl) ?_
  refine lv_aload_n hx hb dL_law_731 rfl (lv_at hl 0 rfl) ?_
  refine lv_iload_n hx hb dL_law_732 rfl (lv_at hl 3 rfl) ?_
  refine lv_iconst (v := iI ((1 : Nat) : Int)) hx hb dL_law_733 rfl ?_
  refine lv_iadd hx hb dL_law_734 ?_
  refine va_sld hx hb hX hbl hbA Wk1.2.2.1 q1 dL_law_735 ?_
  refine lv_aload_n hx hb dL_law_736 rfl (lv_at hl 0 rfl) ?_
  refine lv_iload_n hx hb dL_law_737 rfl (lv_at hl 3 rfl) ?_
  refine lv_iconst (v := iI ((2 : Nat) : Int)) hx hb dL_law_738 rfl ?_
  refine lv_iadd hx hb dL_law_739 ?_
  refine va_sld hx hb hX hbl hbA Wk1.2.2.1 q2 dL_law_740 ?_
  refine lv_aload_n hx hb dL_law_741 rfl (lv_at hl 0 rfl) ?_
  refine lv_iload_n hx hb dL_law_742 rfl (lv_at hl 3 rfl) ?_
  refine lv_iconst (v := iI ((3 : Nat) : Int)) hx hb dL_law_743 rfl ?_
  refine lv_iadd hx hb dL_law_744 ?_
  refine va_sld hx hb hX hbl hbA Wk1.2.2.1 q3 dL_law_745 ?_
  refine lw_callV (as := [.int _, .int _, .int _]) C Wk1 hl.1 dL_law_746 s_L_law_97 h2 rfl (MM_at (by decide)) ⟨_, rfl, rfl⟩ (Nat.le_of_ble_eq_true rfl) ⟨(Nat.le_of_ble_eq_true rfl), (Nat.le_of_ble_eq_true rfl)⟩ (fun H2 locs2 Wk2 => ?_)
  exact lv_icmp_eq (tgt := 1098) hx hb dL_law_749 (by decide) (fun _ => kk k2 H2 locs2 h3 Wk2) (fun h => absurd rfl h)
theorem law_20 (C : Cx M_L_law p s m #[.ref b0] meth' c D tI tZ sd A) {L : Nat} {xs : Nat → Int32} (hX : va_X b0 L xs s s.heap) (hbl : b0 < s.heap.size) (hbA : ¬ A b0) {G : Mem} (hR : Rel G) (Wk : Wd D tI tZ ad sd A 101 (MM G) s H locs) {i : Nat} (hi : i + 6 ≤ L) (hL : L ≤ 384) (hl : lv_has ls 4 [(0, .ref b0), (1, .ref (ad 0)), (2, .ref (ad 86)), (3, .int (iI (i : Int)))]) (kk : ∀ (G1 : Mem) (H1 : Heap) (locs1 : List Loc), Rel G1 → Wd D tI tZ ad sd A 101 (MM G1) s H1 locs1 → W p l e room_1 s m #[.ref b0] below meth c H1 locs1 101 1672 Q (F0 m 1098 ls [])) : W p l e room_1 s m #[.ref b0] below meth c H locs 101 1672 Q (F0 m 754 ls []) := by
  obtain ⟨hx, hb, -⟩ := id C
  have q1 : vp_in (iI (i : Int) + iI ((1 : Nat) : Int)) L := vp_s (by omega) hL
  obtain ⟨v, g2, k2, h1, h2, h3⟩ := cs_move hR (R32_toInt (xs (iI (i : Int) + iI ((1 : Nat) : Int)).toNatClampNeg))
  simp only [← iI_of] at h1 h2
  refine lv_aload_n hx hb dL_law_754 rfl (lv_at hl 1 rfl) ?_
  refine lv_aload_n hx hb dL_law_755 rfl (lv_at hl 0 rfl) ?_
  refine lv_iload_n hx hb dL_law_756 rfl (lv_at hl 3 rfl) ?_
  refine lv_iconst (v := iI ((1 : Nat) : Int)) hx hb dL_law_757 rfl ?_
  refine lv_iadd hx hb dL_law_758 ?_
  refine va_sld hx hb hX hbl hbA Wk.2.2.1 q1 dL_law_759 ?_
  refine lw_callV (as := [.int _]) C Wk hl.1 dL_law_760 s_L_law_98 h1 rfl (MM_at (by decide)) ⟨_, rfl, rfl⟩ (Nat.le_of_ble_eq_true rfl) ⟨(Nat.le_of_ble_eq_true rfl), (Nat.le_of_ble_eq_true rfl)⟩ (fun H1 locs1 Wk1 => ?_)
  refine lv_aload_n hx hb dL_law_763 rfl (lv_at hl 2 rfl) ?_
  refine lv_aload_n hx hb dL_law_764 rfl (lv_at hl 0 rfl) ?_
  refine lv_iload_n hx hb dL_law_765 rfl (lv_at hl 3 rfl) ?_
  refine lv_iconst (v := iI ((1 : Nat) : Int)) hx hb dL_law_766 rfl ?_
  refine lv_iadd hx hb dL_law_767 ?_
  refine va_sld hx hb hX hbl hbA Wk1.2.2.1 q1 dL_law_768 ?_
  refine lw_callV (as := [.int _]) C Wk1 hl.1 dL_law_769 s_L_law_101 h2 rfl (MM_at (by decide)) ⟨_, rfl, rfl⟩ (Nat.le_of_ble_eq_true rfl) ⟨(Nat.le_of_ble_eq_true rfl), (Nat.le_of_ble_eq_true rfl)⟩ (fun H2 locs2 Wk2 => ?_)
  exact lv_icmp_eq (tgt := 1098) hx hb dL_law_772 (by decide) (fun _ => kk k2 H2 locs2 h3 Wk2) (fun h => absurd rfl h)
theorem law_21 (C : Cx M_L_law p s m #[.ref b0] meth' c D tI tZ sd A) {L : Nat} {xs : Nat → Int32} (hX : va_X b0 L xs s s.heap) (hbl : b0 < s.heap.size) (hbA : ¬ A b0) {G : Mem} (hR : Rel G) (Wk : Wd D tI tZ ad sd A 101 (MM G) s H locs) {i : Nat} (hi : i + 6 ≤ L) (hL : L ≤ 384) (hl : lv_has ls 4 [(0, .ref b0), (1, .ref (ad 0)), (2, .ref (ad 86)), (3, .int (iI (i : Int)))]) (kk : ∀ (G1 : Mem) (H1 : Heap) (locs1 : List Loc), Rel G1 → Wd D tI tZ ad sd A 101 (MM G1) s H1 locs1 → W p l e room_1 s m #[.ref b0] below meth c H1 locs1 101 1672 Q (F0 m 1098 ls [])) : W p l e room_1 s m #[.ref b0] below meth c H locs 101 1672 Q (F0 m 777 ls []) := by
  obtain ⟨hx, hb, -⟩ := id C
  have q1 : vp_in (iI (i : Int) + iI ((1 : Nat) : Int)) L := vp_s (by omega) hL
  have q2 : vp_in (iI (i : Int) + iI ((2 : Nat) : Int)) L := vp_s (by omega) hL
  obtain ⟨v, g2, k2, h1, h2, h3⟩ := cs_carters hR (R32_toInt (xs (iI (i : Int) + iI ((1 : Nat) : Int)).toNatClampNeg)) (R32_toInt (xs (iI (i : Int) + iI ((2 : Nat) : Int)).toNatClampNeg))
  simp only [← iI_of] at h1 h2
  refine lv_aload_n hx hb dL_law_777 rfl (lv_at hl 1 rfl) ?_
  refine lv_aload_n hx hb dL_law_778 rfl (lv_at hl 0 rfl) ?_
  refine lv_iload_n hx hb dL_law_779 rfl (lv_at hl 3 rfl) ?_
  refine lv_iconst (v := iI ((1 : Nat) : Int)) hx hb dL_law_780 rfl ?_
  refine lv_iadd hx hb dL_law_781 ?_
  refine va_sld hx hb hX hbl hbA Wk.2.2.1 q1 dL_law_782 ?_
  refine lv_aload_n hx hb dL_law_783 rfl (lv_at hl 0 rfl) ?_
  refine lv_iload_n hx hb dL_law_784 rfl (lv_at hl 3 rfl) ?_
  refine lv_iconst (v := iI ((2 : Nat) : Int)) hx hb dL_law_785 rfl ?_
  refine lv_iadd hx hb dL_law_786 ?_
  refine va_sld hx hb hX hbl hbA Wk.2.2.1 q2 dL_law_787 ?_
  refine lw_callV (as := [.int _, .int _]) C Wk hl.1 dL_law_788 s_L_law_102 h1 rfl (MM_at (by decide)) ⟨_, rfl, rfl⟩ (Nat.le_of_ble_eq_true rfl) ⟨(Nat.le_of_ble_eq_true rfl), (Nat.le_of_ble_eq_true rfl)⟩ (fun H1 locs1 Wk1 => ?_)
  refine lv_aload_n hx hb dL_law_791 rfl (lv_at hl 2 rfl) ?_
  refine lv_aload_n hx hb dL_law_792 rfl (lv_at hl 0 rfl) ?_
  refine lv_iload_n hx hb dL_law_793 rfl (lv_at hl 3 rfl) ?_
  refine lv_iconst (v := iI ((1 : Nat) : Int)) hx hb dL_law_794 rfl ?_
  refine lv_iadd hx hb dL_law_795 ?_
  refine va_sld hx hb hX hbl hbA Wk1.2.2.1 q1 dL_law_796 ?_
  refine lv_aload_n hx hb dL_law_797 rfl (lv_at hl 0 rfl) ?_
  refine lv_iload_n hx hb dL_law_798 rfl (lv_at hl 3 rfl) ?_
  refine lv_iconst (v := iI ((2 : Nat) : Int)) hx hb dL_law_799 rfl ?_
  refine lv_iadd hx hb dL_law_800 ?_
  refine va_sld hx hb hX hbl hbA Wk1.2.2.1 q2 dL_law_801 ?_
  refine lw_callV (as := [.int _, .int _]) C Wk1 hl.1 dL_law_802 s_L_law_105 h2 rfl (MM_at (by decide)) ⟨_, rfl, rfl⟩ (Nat.le_of_ble_eq_true rfl) ⟨(Nat.le_of_ble_eq_true rfl), (Nat.le_of_ble_eq_true rfl)⟩ (fun H2 locs2 Wk2 => ?_)
  exact lv_icmp_eq (tgt := 1098) hx hb dL_law_805 (by decide) (fun _ => kk k2 H2 locs2 h3 Wk2) (fun h => absurd rfl h)
theorem law_22 (C : Cx M_L_law p s m #[.ref b0] meth' c D tI tZ sd A) {L : Nat} {xs : Nat → Int32} (hX : va_X b0 L xs s s.heap) (hbl : b0 < s.heap.size) (hbA : ¬ A b0) {G : Mem} (hR : Rel G) (Wk : Wd D tI tZ ad sd A 101 (MM G) s H locs) {i : Nat} (hi : i + 6 ≤ L) (hL : L ≤ 384) (hl : lv_has ls 4 [(0, .ref b0), (1, .ref (ad 0)), (2, .ref (ad 86)), (3, .int (iI (i : Int)))]) (kk : ∀ (G1 : Mem) (H1 : Heap) (locs1 : List Loc), Rel G1 → Wd D tI tZ ad sd A 101 (MM G1) s H1 locs1 → W p l e room_1 s m #[.ref b0] below meth c H1 locs1 101 1672 Q (F0 m 1098 ls [])) : W p l e room_1 s m #[.ref b0] below meth c H locs 101 1672 Q (F0 m 810 ls []) := by
  obtain ⟨hx, hb, -⟩ := id C
  have q1 : vp_in (iI (i : Int) + iI ((1 : Nat) : Int)) L := vp_s (by omega) hL
  have q2 : vp_in (iI (i : Int) + iI ((2 : Nat) : Int)) L := vp_s (by omega) hL
  have q3 : vp_in (iI (i : Int) + iI ((3 : Nat) : Int)) L := vp_s (by omega) hL
  obtain ⟨v, g2, k2, h1, h2, h3⟩ := cs_reading hR (R32_toInt (xs (iI (i : Int) + iI ((1 : Nat) : Int)).toNatClampNeg)) (R32_toInt (xs (iI (i : Int) + iI ((2 : Nat) : Int)).toNatClampNeg)) (R32_toInt (xs (iI (i : Int) + iI ((3 : Nat) : Int)).toNatClampNeg))
  simp only [← iI_of] at h1 h2
  refine lv_aload_n hx hb dL_law_810 rfl (lv_at hl 1 rfl) ?_
  refine lv_aload_n hx hb dL_law_811 rfl (lv_at hl 0 rfl) ?_
  refine lv_iload_n hx hb dL_law_812 rfl (lv_at hl 3 rfl) ?_
  refine lv_iconst (v := iI ((1 : Nat) : Int)) hx hb dL_law_813 rfl ?_
  refine lv_iadd hx hb dL_law_814 ?_
  refine va_sld hx hb hX hbl hbA Wk.2.2.1 q1 dL_law_815 ?_
  refine lv_aload_n hx hb dL_law_816 rfl (lv_at hl 0 rfl) ?_
  refine lv_iload_n hx hb dL_law_817 rfl (lv_at hl 3 rfl) ?_
  refine lv_iconst (v := iI ((2 : Nat) : Int)) hx hb dL_law_818 rfl ?_
  refine lv_iadd hx hb dL_law_819 ?_
  refine va_sld hx hb hX hbl hbA Wk.2.2.1 q2 dL_law_820 ?_
  refine lv_aload_n hx hb dL_law_821 rfl (lv_at hl 0 rfl) ?_
  refine lv_iload_n hx hb dL_law_822 rfl (lv_at hl 3 rfl) ?_
  refine lv_iconst (v := iI ((3 : Nat) : Int)) hx hb dL_law_823 rfl ?_
  refine lv_iadd hx hb dL_law_824 ?_
  refine va_sld hx hb hX hbl hbA Wk.2.2.1 q3 dL_law_825 ?_
  refine lw_callV (as := [.int _, .int _, .int _]) C Wk hl.1 dL_law_826 s_L_law_106 h1 rfl (MM_at (by decide)) ⟨_, rfl, rfl⟩ (Nat.le_of_ble_eq_true rfl) ⟨(Nat.le_of_ble_eq_true rfl), (Nat.le_of_ble_eq_true rfl)⟩ (fun H1 locs1 Wk1 => ?_)
  refine lv_aload_n hx hb dL_law_829 rfl (lv_at hl 2 rfl) ?_
  refine lv_aload_n hx hb dL_law_830 rfl (lv_at hl 0 rfl) ?_
  refine lv_iload_n hx hb dL_law_831 rfl (lv_at hl 3 rfl) ?_
  refine lv_iconst (v := iI ((1 : Nat) : Int)) hx hb dL_law_832 rfl ?_
  refine lv_iadd hx hb dL_law_833 ?_
  refine va_sld hx hb hX hbl hbA Wk1.2.2.1 q1 dL_law_834 ?_
  refine lv_aload_n hx hb dL_law_835 rfl (lv_at hl 0 rfl) ?_
  refine lv_iload_n hx hb dL_law_836 rfl (lv_at hl 3 rfl) ?_
  refine lv_iconst (v := iI ((2 : Nat) : Int)) hx hb dL_law_837 rfl ?_
  refine lv_iadd hx hb dL_law_838 ?_
  refine va_sld hx hb hX hbl hbA Wk1.2.2.1 q2 dL_law_839 ?_
  refine lv_aload_n hx hb dL_law_840 rfl (lv_at hl 0 rfl) ?_
  refine lv_iload_n hx hb dL_law_841 rfl (lv_at hl 3 rfl) ?_
  refine lv_iconst (v := iI ((3 : Nat) : Int)) hx hb dL_law_842 rfl ?_
  refine lv_iadd hx hb dL_law_843 ?_
  refine va_sld hx hb hX hbl hbA Wk1.2.2.1 q3 dL_law_844 ?_
  refine lw_callV (as := [.int _, .int _, .int _]) C Wk1 hl.1 dL_law_845 s_L_law_109 h2 rfl (MM_at (by decide)) ⟨_, rfl, rfl⟩ (Nat.le_of_ble_eq_true rfl) ⟨(Nat.le_of_ble_eq_true rfl), (Nat.le_of_ble_eq_true rfl)⟩ (fun H2 locs2 Wk2 => ?_)
  exact lv_icmp_eq (tgt := 1098) hx hb dL_law_848 (by decide) (fun _ => kk k2 H2 locs2 h3 Wk2) (fun h => absurd rfl h)
theorem law_23 (C : Cx M_L_law p s m #[.ref b0] meth' c D tI tZ sd A) {L : Nat} {xs : Nat → Int32} (hX : va_X b0 L xs s s.heap) (hbl : b0 < s.heap.size) (hbA : ¬ A b0) {G : Mem} (hR : Rel G) (Wk : Wd D tI tZ ad sd A 101 (MM G) s H locs) {i : Nat} (hi : i + 6 ≤ L) (hL : L ≤ 384) (hl : lv_has ls 4 [(0, .ref b0), (1, .ref (ad 0)), (2, .ref (ad 86)), (3, .int (iI (i : Int)))]) (kk : ∀ (G1 : Mem) (H1 : Heap) (locs1 : List Loc), Rel G1 → Wd D tI tZ ad sd A 101 (MM G1) s H1 locs1 → W p l e room_1 s m #[.ref b0] below meth c H1 locs1 101 1672 Q (F0 m 1098 ls [])) : W p l e room_1 s m #[.ref b0] below meth c H locs 101 1672 Q (F0 m 853 ls []) := by
  obtain ⟨hx, hb, -⟩ := id C
  obtain ⟨v, g2, k2, h1, h2, h3⟩ := cs_forget hR 
  refine lv_aload_n hx hb dL_law_853 rfl (lv_at hl 1 rfl) ?_
  refine lw_callV (as := []) C Wk hl.1 dL_law_854 s_L_law_110 h1 rfl (MM_at (by decide)) ⟨_, rfl, rfl⟩ (Nat.le_of_ble_eq_true rfl) ⟨(Nat.le_of_ble_eq_true rfl), (Nat.le_of_ble_eq_true rfl)⟩ (fun H1 locs1 Wk1 => ?_)
  refine lv_aload_n hx hb dL_law_857 rfl (lv_at hl 2 rfl) ?_
  refine lw_callV (as := []) C Wk1 hl.1 dL_law_858 s_L_law_113 h2 rfl (MM_at (by decide)) ⟨_, rfl, rfl⟩ (Nat.le_of_ble_eq_true rfl) ⟨(Nat.le_of_ble_eq_true rfl), (Nat.le_of_ble_eq_true rfl)⟩ (fun H2 locs2 Wk2 => ?_)
  exact lv_icmp_eq (tgt := 1098) hx hb dL_law_861 (by decide) (fun _ => kk k2 H2 locs2 h3 Wk2) (fun h => absurd rfl h)
theorem law_24 (C : Cx M_L_law p s m #[.ref b0] meth' c D tI tZ sd A) {L : Nat} {xs : Nat → Int32} (hX : va_X b0 L xs s s.heap) (hbl : b0 < s.heap.size) (hbA : ¬ A b0) {G : Mem} (hR : Rel G) (Wk : Wd D tI tZ ad sd A 101 (MM G) s H locs) {i : Nat} (hi : i + 6 ≤ L) (hL : L ≤ 384) (hl : lv_has ls 4 [(0, .ref b0), (1, .ref (ad 0)), (2, .ref (ad 86)), (3, .int (iI (i : Int)))]) (kk : ∀ (G1 : Mem) (H1 : Heap) (locs1 : List Loc), Rel G1 → Wd D tI tZ ad sd A 101 (MM G1) s H1 locs1 → W p l e room_1 s m #[.ref b0] below meth c H1 locs1 101 1672 Q (F0 m 1098 ls [])) : W p l e room_1 s m #[.ref b0] below meth c H locs 101 1672 Q (F0 m 866 ls []) := by
  obtain ⟨hx, hb, -⟩ := id C
  have q1 : vp_in (iI (i : Int) + iI ((1 : Nat) : Int)) L := vp_s (by omega) hL
  obtain ⟨v, g2, k2, h1, h2, h3⟩ := cs_out hR (R32_toInt (xs (iI (i : Int) + iI ((1 : Nat) : Int)).toNatClampNeg))
  simp only [← iI_of] at h1 h2
  refine lv_aload_n hx hb dL_law_866 rfl (lv_at hl 1 rfl) ?_
  refine lv_aload_n hx hb dL_law_867 rfl (lv_at hl 0 rfl) ?_
  refine lv_iload_n hx hb dL_law_868 rfl (lv_at hl 3 rfl) ?_
  refine lv_iconst (v := iI ((1 : Nat) : Int)) hx hb dL_law_869 rfl ?_
  refine lv_iadd hx hb dL_law_870 ?_
  refine va_sld hx hb hX hbl hbA Wk.2.2.1 q1 dL_law_871 ?_
  refine lw_callV (as := [.int _]) C Wk hl.1 dL_law_872 s_L_law_114 h1 rfl (MM_at (by decide)) ⟨_, rfl, rfl⟩ (Nat.le_of_ble_eq_true rfl) ⟨(Nat.le_of_ble_eq_true rfl), (Nat.le_of_ble_eq_true rfl)⟩ (fun H1 locs1 Wk1 => ?_)
  refine lv_aload_n hx hb dL_law_875 rfl (lv_at hl 2 rfl) ?_
  refine lv_aload_n hx hb dL_law_876 rfl (lv_at hl 0 rfl) ?_
  refine lv_iload_n hx hb dL_law_877 rfl (lv_at hl 3 rfl) ?_
  refine lv_iconst (v := iI ((1 : Nat) : Int)) hx hb dL_law_878 rfl ?_
  refine lv_iadd hx hb dL_law_879 ?_
  refine va_sld hx hb hX hbl hbA Wk1.2.2.1 q1 dL_law_880 ?_
  refine lw_callV (as := [.int _]) C Wk1 hl.1 dL_law_881 s_L_law_117 h2 rfl (MM_at (by decide)) ⟨_, rfl, rfl⟩ (Nat.le_of_ble_eq_true rfl) ⟨(Nat.le_of_ble_eq_true rfl), (Nat.le_of_ble_eq_true rfl)⟩ (fun H2 locs2 Wk2 => ?_)
  exact lv_icmp_eq (tgt := 1098) hx hb dL_law_884 (by decide) (fun _ => kk k2 H2 locs2 h3 Wk2) (fun h => absurd rfl h)
theorem law_25 (C : Cx M_L_law p s m #[.ref b0] meth' c D tI tZ sd A) {L : Nat} {xs : Nat → Int32} (hX : va_X b0 L xs s s.heap) (hbl : b0 < s.heap.size) (hbA : ¬ A b0) {G : Mem} (hR : Rel G) (Wk : Wd D tI tZ ad sd A 101 (MM G) s H locs) {i : Nat} (hi : i + 6 ≤ L) (hL : L ≤ 384) (hl : lv_has ls 4 [(0, .ref b0), (1, .ref (ad 0)), (2, .ref (ad 86)), (3, .int (iI (i : Int)))]) (kk : ∀ (G1 : Mem) (H1 : Heap) (locs1 : List Loc), Rel G1 → Wd D tI tZ ad sd A 101 (MM G1) s H1 locs1 → W p l e room_1 s m #[.ref b0] below meth c H1 locs1 101 1672 Q (F0 m 1098 ls [])) : W p l e room_1 s m #[.ref b0] below meth c H locs 101 1672 Q (F0 m 889 ls []) := by
  obtain ⟨hx, hb, -⟩ := id C
  have q1 : vp_in (iI (i : Int) + iI ((1 : Nat) : Int)) L := vp_s (by omega) hL
  obtain ⟨v, g2, k2, h1, h2, h3⟩ := cs_look hR (R32_toInt (xs (iI (i : Int) + iI ((1 : Nat) : Int)).toNatClampNeg))
  simp only [← iI_of] at h1 h2
  refine lv_aload_n hx hb dL_law_889 rfl (lv_at hl 1 rfl) ?_
  refine lv_aload_n hx hb dL_law_890 rfl (lv_at hl 0 rfl) ?_
  refine lv_iload_n hx hb dL_law_891 rfl (lv_at hl 3 rfl) ?_
  refine lv_iconst (v := iI ((1 : Nat) : Int)) hx hb dL_law_892 rfl ?_
  refine lv_iadd hx hb dL_law_893 ?_
  refine va_sld hx hb hX hbl hbA Wk.2.2.1 q1 dL_law_894 ?_
  refine lw_callV (as := [.int _]) C Wk hl.1 dL_law_895 s_L_law_118 h1 rfl (MM_at (by decide)) ⟨_, rfl, rfl⟩ (Nat.le_of_ble_eq_true rfl) ⟨(Nat.le_of_ble_eq_true rfl), (Nat.le_of_ble_eq_true rfl)⟩ (fun H1 locs1 Wk1 => ?_)
  refine lv_aload_n hx hb dL_law_898 rfl (lv_at hl 2 rfl) ?_
  refine lv_aload_n hx hb dL_law_899 rfl (lv_at hl 0 rfl) ?_
  refine lv_iload_n hx hb dL_law_900 rfl (lv_at hl 3 rfl) ?_
  refine lv_iconst (v := iI ((1 : Nat) : Int)) hx hb dL_law_901 rfl ?_
  refine lv_iadd hx hb dL_law_902 ?_
  refine va_sld hx hb hX hbl hbA Wk1.2.2.1 q1 dL_law_903 ?_
  refine lw_callV (as := [.int _]) C Wk1 hl.1 dL_law_904 s_L_law_121 h2 rfl (MM_at (by decide)) ⟨_, rfl, rfl⟩ (Nat.le_of_ble_eq_true rfl) ⟨(Nat.le_of_ble_eq_true rfl), (Nat.le_of_ble_eq_true rfl)⟩ (fun H2 locs2 Wk2 => ?_)
  exact lv_icmp_eq (tgt := 1098) hx hb dL_law_907 (by decide) (fun _ => kk k2 H2 locs2 h3 Wk2) (fun h => absurd rfl h)
theorem law_26 (C : Cx M_L_law p s m #[.ref b0] meth' c D tI tZ sd A) {L : Nat} {xs : Nat → Int32} (hX : va_X b0 L xs s s.heap) (hbl : b0 < s.heap.size) (hbA : ¬ A b0) {G : Mem} (hR : Rel G) (Wk : Wd D tI tZ ad sd A 101 (MM G) s H locs) {i : Nat} (hi : i + 6 ≤ L) (hL : L ≤ 384) (hl : lv_has ls 4 [(0, .ref b0), (1, .ref (ad 0)), (2, .ref (ad 86)), (3, .int (iI (i : Int)))]) (kk : ∀ (G1 : Mem) (H1 : Heap) (locs1 : List Loc), Rel G1 → Wd D tI tZ ad sd A 101 (MM G1) s H1 locs1 → W p l e room_1 s m #[.ref b0] below meth c H1 locs1 101 1672 Q (F0 m 1098 ls [])) : W p l e room_1 s m #[.ref b0] below meth c H locs 101 1672 Q (F0 m 912 ls []) := by
  obtain ⟨hx, hb, -⟩ := id C
  obtain ⟨v, g2, k2, h1, h2, h3⟩ := cs_dolls hR 
  refine lv_aload_n hx hb dL_law_912 rfl (lv_at hl 1 rfl) ?_
  refine lw_callV (as := []) C Wk hl.1 dL_law_913 s_L_law_122 h1 rfl (MM_at (by decide)) ⟨_, rfl, rfl⟩ (Nat.le_of_ble_eq_true rfl) ⟨(Nat.le_of_ble_eq_true rfl), (Nat.le_of_ble_eq_true rfl)⟩ (fun H1 locs1 Wk1 => ?_)
  refine lv_aload_n hx hb dL_law_916 rfl (lv_at hl 2 rfl) ?_
  refine lw_callV (as := []) C Wk1 hl.1 dL_law_917 s_L_law_125 h2 rfl (MM_at (by decide)) ⟨_, rfl, rfl⟩ (Nat.le_of_ble_eq_true rfl) ⟨(Nat.le_of_ble_eq_true rfl), (Nat.le_of_ble_eq_true rfl)⟩ (fun H2 locs2 Wk2 => ?_)
  exact lv_icmp_eq (tgt := 1098) hx hb dL_law_920 (by decide) (fun _ => kk k2 H2 locs2 h3 Wk2) (fun h => absurd rfl h)
theorem law_27 (C : Cx M_L_law p s m #[.ref b0] meth' c D tI tZ sd A) {L : Nat} {xs : Nat → Int32} (hX : va_X b0 L xs s s.heap) (hbl : b0 < s.heap.size) (hbA : ¬ A b0) {G : Mem} (hR : Rel G) (Wk : Wd D tI tZ ad sd A 101 (MM G) s H locs) {i : Nat} (hi : i + 6 ≤ L) (hL : L ≤ 384) (hl : lv_has ls 4 [(0, .ref b0), (1, .ref (ad 0)), (2, .ref (ad 86)), (3, .int (iI (i : Int)))]) (kk : ∀ (G1 : Mem) (H1 : Heap) (locs1 : List Loc), Rel G1 → Wd D tI tZ ad sd A 101 (MM G1) s H1 locs1 → W p l e room_1 s m #[.ref b0] below meth c H1 locs1 101 1672 Q (F0 m 1098 ls [])) : W p l e room_1 s m #[.ref b0] below meth c H locs 101 1672 Q (F0 m 925 ls []) := by
  obtain ⟨hx, hb, -⟩ := id C
  have q1 : vp_in (iI (i : Int) + iI ((1 : Nat) : Int)) L := vp_s (by omega) hL
  have q2 : vp_in (iI (i : Int) + iI ((2 : Nat) : Int)) L := vp_s (by omega) hL
  have q3 : vp_in (iI (i : Int) + iI ((3 : Nat) : Int)) L := vp_s (by omega) hL
  obtain ⟨v, g2, k2, h1, h2, h3⟩ := cs_days hR (R32_toInt (xs (iI (i : Int) + iI ((1 : Nat) : Int)).toNatClampNeg)) (R32_toInt (xs (iI (i : Int) + iI ((2 : Nat) : Int)).toNatClampNeg)) (R32_toInt (xs (iI (i : Int) + iI ((3 : Nat) : Int)).toNatClampNeg))
  simp only [← iI_of] at h1 h2
  refine lv_aload_n hx hb dL_law_925 rfl (lv_at hl 1 rfl) ?_
  refine lv_aload_n hx hb dL_law_926 rfl (lv_at hl 0 rfl) ?_
  refine lv_iload_n hx hb dL_law_927 rfl (lv_at hl 3 rfl) ?_
  refine lv_iconst (v := iI ((1 : Nat) : Int)) hx hb dL_law_928 rfl ?_
  refine lv_iadd hx hb dL_law_929 ?_
  refine va_sld hx hb hX hbl hbA Wk.2.2.1 q1 dL_law_930 ?_
  refine lv_aload_n hx hb dL_law_931 rfl (lv_at hl 0 rfl) ?_
  refine lv_iload_n hx hb dL_law_932 rfl (lv_at hl 3 rfl) ?_
  refine lv_iconst (v := iI ((2 : Nat) : Int)) hx hb dL_law_933 rfl ?_
  refine lv_iadd hx hb dL_law_934 ?_
  refine va_sld hx hb hX hbl hbA Wk.2.2.1 q2 dL_law_935 ?_
  refine lv_aload_n hx hb dL_law_936 rfl (lv_at hl 0 rfl) ?_
  refine lv_iload_n hx hb dL_law_937 rfl (lv_at hl 3 rfl) ?_
  refine lv_iconst (v := iI ((3 : Nat) : Int)) hx hb dL_law_938 rfl ?_
  refine lv_iadd hx hb dL_law_939 ?_
  refine va_sld hx hb hX hbl hbA Wk.2.2.1 q3 dL_law_940 ?_
  refine lw_callV (as := [.int _, .int _, .int _]) C Wk hl.1 dL_law_941 s_L_law_126 h1 rfl (MM_at (by decide)) ⟨_, rfl, rfl⟩ (Nat.le_of_ble_eq_true rfl) ⟨(Nat.le_of_ble_eq_true rfl), (Nat.le_of_ble_eq_true rfl)⟩ (fun H1 locs1 Wk1 => ?_)
  refine lv_aload_n hx hb dL_law_944 rfl (lv_at hl 2 rfl) ?_
  refine lv_aload_n hx hb dL_law_945 rfl (lv_at hl 0 rfl) ?_
  refine lv_iload_n hx hb dL_law_946 rfl (lv_at hl 3 rfl) ?_
  refine lv_iconst (v := iI ((1 : Nat) : Int)) hx hb dL_law_947 rfl ?_
  refine lv_iadd hx hb dL_law_948 ?_
  refine va_sld hx hb hX hbl hbA Wk1.2.2.1 q1 dL_law_949 ?_
  refine lv_aload_n hx hb dL_law_950 rfl (lv_at hl 0 rfl) ?_
  refine lv_iload_n hx hb dL_law_951 rfl (lv_at hl 3 rfl) ?_
  refine lv_iconst (v := iI ((2 : Nat) : Int)) hx hb dL_law_952 rfl ?_
  refine lv_iadd hx hb dL_law_953 ?_
  refine va_sld hx hb hX hbl hbA Wk1.2.2.1 q2 dL_law_954 ?_
  refine lv_aload_n hx hb dL_law_955 rfl (lv_at hl 0 rfl) ?_
  refine lv_iload_n hx hb dL_law_956 rfl (lv_at hl 3 rfl) ?_
  refine lv_iconst (v := iI ((3 : Nat) : Int)) hx hb dL_law_957 rfl ?_
  refine lv_iadd hx hb dL_law_958 ?_
  refine va_sld hx hb hX hbl hbA Wk1.2.2.1 q3 dL_law_959 ?_
  refine lw_callV (as := [.int _, .int _, .int _]) C Wk1 hl.1 dL_law_960 s_L_law_129 h2 rfl (MM_at (by decide)) ⟨_, rfl, rfl⟩ (Nat.le_of_ble_eq_true rfl) ⟨(Nat.le_of_ble_eq_true rfl), (Nat.le_of_ble_eq_true rfl)⟩ (fun H2 locs2 Wk2 => ?_)
  exact lv_icmp_eq (tgt := 1098) hx hb dL_law_963 (by decide) (fun _ => kk k2 H2 locs2 h3 Wk2) (fun h => absurd rfl h)
theorem law_28 (C : Cx M_L_law p s m #[.ref b0] meth' c D tI tZ sd A) {L : Nat} {xs : Nat → Int32} (hX : va_X b0 L xs s s.heap) (hbl : b0 < s.heap.size) (hbA : ¬ A b0) {G : Mem} (hR : Rel G) (Wk : Wd D tI tZ ad sd A 101 (MM G) s H locs) {i : Nat} (hi : i + 6 ≤ L) (hL : L ≤ 384) (hl : lv_has ls 4 [(0, .ref b0), (1, .ref (ad 0)), (2, .ref (ad 86)), (3, .int (iI (i : Int)))]) (kk : ∀ (G1 : Mem) (H1 : Heap) (locs1 : List Loc), Rel G1 → Wd D tI tZ ad sd A 101 (MM G1) s H1 locs1 → W p l e room_1 s m #[.ref b0] below meth c H1 locs1 101 1672 Q (F0 m 1098 ls [])) : W p l e room_1 s m #[.ref b0] below meth c H locs 101 1672 Q (F0 m 968 ls []) := by
  obtain ⟨hx, hb, -⟩ := id C
  have q1 : vp_in (iI (i : Int) + iI ((1 : Nat) : Int)) L := vp_s (by omega) hL
  obtain ⟨v, g2, k2, h1, h2, h3⟩ := cs_part hR (R32_toInt (xs (iI (i : Int) + iI ((1 : Nat) : Int)).toNatClampNeg))
  simp only [← iI_of] at h1 h2
  refine lv_aload_n hx hb dL_law_968 rfl (lv_at hl 1 rfl) ?_
  refine lv_aload_n hx hb dL_law_969 rfl (lv_at hl 0 rfl) ?_
  refine lv_iload_n hx hb dL_law_970 rfl (lv_at hl 3 rfl) ?_
  refine lv_iconst (v := iI ((1 : Nat) : Int)) hx hb dL_law_971 rfl ?_
  refine lv_iadd hx hb dL_law_972 ?_
  refine va_sld hx hb hX hbl hbA Wk.2.2.1 q1 dL_law_973 ?_
  refine lw_callV (as := [.int _]) C Wk hl.1 dL_law_974 s_L_law_130 h1 rfl (MM_at (by decide)) ⟨_, rfl, rfl⟩ (Nat.le_of_ble_eq_true rfl) ⟨(Nat.le_of_ble_eq_true rfl), (Nat.le_of_ble_eq_true rfl)⟩ (fun H1 locs1 Wk1 => ?_)
  refine lv_aload_n hx hb dL_law_977 rfl (lv_at hl 2 rfl) ?_
  refine lv_aload_n hx hb dL_law_978 rfl (lv_at hl 0 rfl) ?_
  refine lv_iload_n hx hb dL_law_979 rfl (lv_at hl 3 rfl) ?_
  refine lv_iconst (v := iI ((1 : Nat) : Int)) hx hb dL_law_980 rfl ?_
  refine lv_iadd hx hb dL_law_981 ?_
  refine va_sld hx hb hX hbl hbA Wk1.2.2.1 q1 dL_law_982 ?_
  refine lw_callV (as := [.int _]) C Wk1 hl.1 dL_law_983 s_L_law_134 h2 rfl (MM_at (by decide)) ⟨_, rfl, rfl⟩ (Nat.le_of_ble_eq_true rfl) ⟨(Nat.le_of_ble_eq_true rfl), (Nat.le_of_ble_eq_true rfl)⟩ (fun H2 locs2 Wk2 => ?_)
  refine W.lcmp hx hb dL_law_986 ?_
  exact lv_if_eq (tgt := 1098) hx hb dL_law_987 (by decide) (fun _ => kk k2 H2 locs2 h3 Wk2) (fun h => absurd (lg_same _) h)
theorem law_29 (C : Cx M_L_law p s m #[.ref b0] meth' c D tI tZ sd A) {L : Nat} {xs : Nat → Int32} (hX : va_X b0 L xs s s.heap) (hbl : b0 < s.heap.size) (hbA : ¬ A b0) {G : Mem} (hR : Rel G) (Wk : Wd D tI tZ ad sd A 101 (MM G) s H locs) {i : Nat} (hi : i + 6 ≤ L) (hL : L ≤ 384) (hl : lv_has ls 4 [(0, .ref b0), (1, .ref (ad 0)), (2, .ref (ad 86)), (3, .int (iI (i : Int)))]) (kk : ∀ (G1 : Mem) (H1 : Heap) (locs1 : List Loc), Rel G1 → Wd D tI tZ ad sd A 101 (MM G1) s H1 locs1 → W p l e room_1 s m #[.ref b0] below meth c H1 locs1 101 1672 Q (F0 m 1098 ls [])) : W p l e room_1 s m #[.ref b0] below meth c H locs 101 1672 Q (F0 m 992 ls []) := by
  obtain ⟨hx, hb, -⟩ := id C
  have q1 : vp_in (iI (i : Int) + iI ((1 : Nat) : Int)) L := vp_s (by omega) hL
  obtain ⟨v, g2, k2, h1, h2, h3⟩ := cs_image hR (R32_toInt (xs (iI (i : Int) + iI ((1 : Nat) : Int)).toNatClampNeg))
  simp only [← iI_of] at h1 h2
  refine lv_aload_n hx hb dL_law_992 rfl (lv_at hl 1 rfl) ?_
  refine lv_aload_n hx hb dL_law_993 rfl (lv_at hl 0 rfl) ?_
  refine lv_iload_n hx hb dL_law_994 rfl (lv_at hl 3 rfl) ?_
  refine lv_iconst (v := iI ((1 : Nat) : Int)) hx hb dL_law_995 rfl ?_
  refine lv_iadd hx hb dL_law_996 ?_
  refine va_sld hx hb hX hbl hbA Wk.2.2.1 q1 dL_law_997 ?_
  refine lw_callV (as := [.int _]) C Wk hl.1 dL_law_998 s_L_law_135 h1 rfl (MM_at (by decide)) ⟨_, rfl, rfl⟩ (Nat.le_of_ble_eq_true rfl) ⟨(Nat.le_of_ble_eq_true rfl), (Nat.le_of_ble_eq_true rfl)⟩ (fun H1 locs1 Wk1 => ?_)
  refine lv_aload_n hx hb dL_law_1001 rfl (lv_at hl 2 rfl) ?_
  refine lv_aload_n hx hb dL_law_1002 rfl (lv_at hl 0 rfl) ?_
  refine lv_iload_n hx hb dL_law_1003 rfl (lv_at hl 3 rfl) ?_
  refine lv_iconst (v := iI ((1 : Nat) : Int)) hx hb dL_law_1004 rfl ?_
  refine lv_iadd hx hb dL_law_1005 ?_
  refine va_sld hx hb hX hbl hbA Wk1.2.2.1 q1 dL_law_1006 ?_
  refine lw_callV (as := [.int _]) C Wk1 hl.1 dL_law_1007 s_L_law_138 h2 rfl (MM_at (by decide)) ⟨_, rfl, rfl⟩ (Nat.le_of_ble_eq_true rfl) ⟨(Nat.le_of_ble_eq_true rfl), (Nat.le_of_ble_eq_true rfl)⟩ (fun H2 locs2 Wk2 => ?_)
  exact lv_icmp_eq (tgt := 1098) hx hb dL_law_1010 (by decide) (fun _ => kk k2 H2 locs2 h3 Wk2) (fun h => absurd rfl h)
theorem law_30 (C : Cx M_L_law p s m #[.ref b0] meth' c D tI tZ sd A) {L : Nat} {xs : Nat → Int32} (hX : va_X b0 L xs s s.heap) (hbl : b0 < s.heap.size) (hbA : ¬ A b0) {G : Mem} (hR : Rel G) (Wk : Wd D tI tZ ad sd A 101 (MM G) s H locs) {i : Nat} (hi : i + 6 ≤ L) (hL : L ≤ 384) (hl : lv_has ls 4 [(0, .ref b0), (1, .ref (ad 0)), (2, .ref (ad 86)), (3, .int (iI (i : Int)))]) (kk : ∀ (G1 : Mem) (H1 : Heap) (locs1 : List Loc), Rel G1 → Wd D tI tZ ad sd A 101 (MM G1) s H1 locs1 → W p l e room_1 s m #[.ref b0] below meth c H1 locs1 101 1672 Q (F0 m 1098 ls [])) : W p l e room_1 s m #[.ref b0] below meth c H locs 101 1672 Q (F0 m 1015 ls []) := by
  obtain ⟨hx, hb, -⟩ := id C
  have q1 : vp_in (iI (i : Int) + iI ((1 : Nat) : Int)) L := vp_s (by omega) hL
  obtain ⟨v, g2, k2, h1, h2, h3⟩ := cs_from hR (R32_toInt (xs (iI (i : Int) + iI ((1 : Nat) : Int)).toNatClampNeg))
  simp only [← iI_of] at h1 h2
  refine lv_aload_n hx hb dL_law_1015 rfl (lv_at hl 1 rfl) ?_
  refine lv_aload_n hx hb dL_law_1016 rfl (lv_at hl 0 rfl) ?_
  refine lv_iload_n hx hb dL_law_1017 rfl (lv_at hl 3 rfl) ?_
  refine lv_iconst (v := iI ((1 : Nat) : Int)) hx hb dL_law_1018 rfl ?_
  refine lv_iadd hx hb dL_law_1019 ?_
  refine va_sld hx hb hX hbl hbA Wk.2.2.1 q1 dL_law_1020 ?_
  refine lw_callV (as := [.int _]) C Wk hl.1 dL_law_1021 s_L_law_139 h1 rfl (MM_at (by decide)) ⟨_, rfl, rfl⟩ (Nat.le_of_ble_eq_true rfl) ⟨(Nat.le_of_ble_eq_true rfl), (Nat.le_of_ble_eq_true rfl)⟩ (fun H1 locs1 Wk1 => ?_)
  refine lv_aload_n hx hb dL_law_1024 rfl (lv_at hl 2 rfl) ?_
  refine lv_aload_n hx hb dL_law_1025 rfl (lv_at hl 0 rfl) ?_
  refine lv_iload_n hx hb dL_law_1026 rfl (lv_at hl 3 rfl) ?_
  refine lv_iconst (v := iI ((1 : Nat) : Int)) hx hb dL_law_1027 rfl ?_
  refine lv_iadd hx hb dL_law_1028 ?_
  refine va_sld hx hb hX hbl hbA Wk1.2.2.1 q1 dL_law_1029 ?_
  refine lw_callV (as := [.int _]) C Wk1 hl.1 dL_law_1030 s_L_law_142 h2 rfl (MM_at (by decide)) ⟨_, rfl, rfl⟩ (Nat.le_of_ble_eq_true rfl) ⟨(Nat.le_of_ble_eq_true rfl), (Nat.le_of_ble_eq_true rfl)⟩ (fun H2 locs2 Wk2 => ?_)
  exact lv_icmp_eq (tgt := 1098) hx hb dL_law_1033 (by decide) (fun _ => kk k2 H2 locs2 h3 Wk2) (fun h => absurd rfl h)
theorem law_31 (C : Cx M_L_law p s m #[.ref b0] meth' c D tI tZ sd A) {L : Nat} {xs : Nat → Int32} (hX : va_X b0 L xs s s.heap) (hbl : b0 < s.heap.size) (hbA : ¬ A b0) {G : Mem} (hR : Rel G) (Wk : Wd D tI tZ ad sd A 101 (MM G) s H locs) {i : Nat} (hi : i + 6 ≤ L) (hL : L ≤ 384) (hl : lv_has ls 4 [(0, .ref b0), (1, .ref (ad 0)), (2, .ref (ad 86)), (3, .int (iI (i : Int)))]) (kk : ∀ (G1 : Mem) (H1 : Heap) (locs1 : List Loc), Rel G1 → Wd D tI tZ ad sd A 101 (MM G1) s H1 locs1 → W p l e room_1 s m #[.ref b0] below meth c H1 locs1 101 1672 Q (F0 m 1098 ls [])) : W p l e room_1 s m #[.ref b0] below meth c H locs 101 1672 Q (F0 m 1038 ls []) := by
  obtain ⟨hx, hb, -⟩ := id C
  have q1 : vp_in (iI (i : Int) + iI ((1 : Nat) : Int)) L := vp_s (by omega) hL
  obtain ⟨v, g2, k2, h1, h2, h3⟩ := cs_status hR (R32_toInt (xs (iI (i : Int) + iI ((1 : Nat) : Int)).toNatClampNeg))
  simp only [← iI_of] at h1 h2
  refine lv_aload_n hx hb dL_law_1038 rfl (lv_at hl 1 rfl) ?_
  refine lv_aload_n hx hb dL_law_1039 rfl (lv_at hl 0 rfl) ?_
  refine lv_iload_n hx hb dL_law_1040 rfl (lv_at hl 3 rfl) ?_
  refine lv_iconst (v := iI ((1 : Nat) : Int)) hx hb dL_law_1041 rfl ?_
  refine lv_iadd hx hb dL_law_1042 ?_
  refine va_sld hx hb hX hbl hbA Wk.2.2.1 q1 dL_law_1043 ?_
  refine lw_callV (as := [.int _]) C Wk hl.1 dL_law_1044 s_L_law_143 h1 rfl (MM_at (by decide)) ⟨_, rfl, rfl⟩ (Nat.le_of_ble_eq_true rfl) ⟨(Nat.le_of_ble_eq_true rfl), (Nat.le_of_ble_eq_true rfl)⟩ (fun H1 locs1 Wk1 => ?_)
  refine lv_aload_n hx hb dL_law_1047 rfl (lv_at hl 2 rfl) ?_
  refine lv_aload_n hx hb dL_law_1048 rfl (lv_at hl 0 rfl) ?_
  refine lv_iload_n hx hb dL_law_1049 rfl (lv_at hl 3 rfl) ?_
  refine lv_iconst (v := iI ((1 : Nat) : Int)) hx hb dL_law_1050 rfl ?_
  refine lv_iadd hx hb dL_law_1051 ?_
  refine va_sld hx hb hX hbl hbA Wk1.2.2.1 q1 dL_law_1052 ?_
  refine lw_callV (as := [.int _]) C Wk1 hl.1 dL_law_1053 s_L_law_146 h2 rfl (MM_at (by decide)) ⟨_, rfl, rfl⟩ (Nat.le_of_ble_eq_true rfl) ⟨(Nat.le_of_ble_eq_true rfl), (Nat.le_of_ble_eq_true rfl)⟩ (fun H2 locs2 Wk2 => ?_)
  exact lv_icmp_eq (tgt := 1098) hx hb dL_law_1056 (by decide) (fun _ => kk k2 H2 locs2 h3 Wk2) (fun h => absurd rfl h)
theorem law_32 (C : Cx M_L_law p s m #[.ref b0] meth' c D tI tZ sd A) {L : Nat} {xs : Nat → Int32} (hX : va_X b0 L xs s s.heap) (hbl : b0 < s.heap.size) (hbA : ¬ A b0) {G : Mem} (hR : Rel G) (Wk : Wd D tI tZ ad sd A 101 (MM G) s H locs) {i : Nat} (hi : i + 6 ≤ L) (hL : L ≤ 384) (hl : lv_has ls 4 [(0, .ref b0), (1, .ref (ad 0)), (2, .ref (ad 86)), (3, .int (iI (i : Int)))]) (kk : ∀ (G1 : Mem) (H1 : Heap) (locs1 : List Loc), Rel G1 → Wd D tI tZ ad sd A 101 (MM G1) s H1 locs1 → W p l e room_1 s m #[.ref b0] below meth c H1 locs1 101 1672 Q (F0 m 1098 ls [])) : W p l e room_1 s m #[.ref b0] below meth c H locs 101 1672 Q (F0 m 1061 ls []) := by
  obtain ⟨hx, hb, -⟩ := id C
  have q1 : vp_in (iI (i : Int) + iI ((1 : Nat) : Int)) L := vp_s (by omega) hL
  obtain ⟨v, g2, k2, h1, h2, h3⟩ := cs_count hR (R32_toInt (xs (iI (i : Int) + iI ((1 : Nat) : Int)).toNatClampNeg))
  simp only [← iI_of] at h1 h2
  refine lv_aload_n hx hb dL_law_1061 rfl (lv_at hl 1 rfl) ?_
  refine lv_aload_n hx hb dL_law_1062 rfl (lv_at hl 0 rfl) ?_
  refine lv_iload_n hx hb dL_law_1063 rfl (lv_at hl 3 rfl) ?_
  refine lv_iconst (v := iI ((1 : Nat) : Int)) hx hb dL_law_1064 rfl ?_
  refine lv_iadd hx hb dL_law_1065 ?_
  refine va_sld hx hb hX hbl hbA Wk.2.2.1 q1 dL_law_1066 ?_
  refine lw_callV (as := [.int _]) C Wk hl.1 dL_law_1067 s_L_law_147 h1 rfl (MM_at (by decide)) ⟨_, rfl, rfl⟩ (Nat.le_of_ble_eq_true rfl) ⟨(Nat.le_of_ble_eq_true rfl), (Nat.le_of_ble_eq_true rfl)⟩ (fun H1 locs1 Wk1 => ?_)
  refine lv_aload_n hx hb dL_law_1070 rfl (lv_at hl 2 rfl) ?_
  refine lv_aload_n hx hb dL_law_1071 rfl (lv_at hl 0 rfl) ?_
  refine lv_iload_n hx hb dL_law_1072 rfl (lv_at hl 3 rfl) ?_
  refine lv_iconst (v := iI ((1 : Nat) : Int)) hx hb dL_law_1073 rfl ?_
  refine lv_iadd hx hb dL_law_1074 ?_
  refine va_sld hx hb hX hbl hbA Wk1.2.2.1 q1 dL_law_1075 ?_
  refine lw_callV (as := [.int _]) C Wk1 hl.1 dL_law_1076 s_L_law_150 h2 rfl (MM_at (by decide)) ⟨_, rfl, rfl⟩ (Nat.le_of_ble_eq_true rfl) ⟨(Nat.le_of_ble_eq_true rfl), (Nat.le_of_ble_eq_true rfl)⟩ (fun H2 locs2 Wk2 => ?_)
  exact lv_icmp_eq (tgt := 1098) hx hb dL_law_1079 (by decide) (fun _ => kk k2 H2 locs2 h3 Wk2) (fun h => absurd rfl h)
theorem law_33 (C : Cx M_L_law p s m #[.ref b0] meth' c D tI tZ sd A) {L : Nat} {xs : Nat → Int32} (hX : va_X b0 L xs s s.heap) (hbl : b0 < s.heap.size) (hbA : ¬ A b0) {G : Mem} (hR : Rel G) (Wk : Wd D tI tZ ad sd A 101 (MM G) s H locs) {i : Nat} (hi : i + 6 ≤ L) (hL : L ≤ 384) (hl : lv_has ls 4 [(0, .ref b0), (1, .ref (ad 0)), (2, .ref (ad 86)), (3, .int (iI (i : Int)))]) (kk : ∀ (G1 : Mem) (H1 : Heap) (locs1 : List Loc), Rel G1 → Wd D tI tZ ad sd A 101 (MM G1) s H1 locs1 → W p l e room_1 s m #[.ref b0] below meth c H1 locs1 101 1672 Q (F0 m 1098 ls [])) : W p l e room_1 s m #[.ref b0] below meth c H locs 101 1672 Q (F0 m 1084 ls []) := by
  obtain ⟨hx, hb, -⟩ := id C
  obtain ⟨v, g2, k2, h1, h2, h3⟩ := cs_digest hR 
  refine lv_aload_n hx hb dL_law_1084 rfl (lv_at hl 1 rfl) ?_
  refine lw_callV (as := []) C Wk hl.1 dL_law_1085 s_L_law_151 h1 rfl (MM_at (by decide)) ⟨_, rfl, rfl⟩ (Nat.le_of_ble_eq_true rfl) ⟨(Nat.le_of_ble_eq_true rfl), (Nat.le_of_ble_eq_true rfl)⟩ (fun H1 locs1 Wk1 => ?_)
  refine lv_aload_n hx hb dL_law_1088 rfl (lv_at hl 2 rfl) ?_
  refine lw_callV (as := []) C Wk1 hl.1 dL_law_1089 s_L_law_155 h2 rfl (MM_at (by decide)) ⟨_, rfl, rfl⟩ (Nat.le_of_ble_eq_true rfl) ⟨(Nat.le_of_ble_eq_true rfl), (Nat.le_of_ble_eq_true rfl)⟩ (fun H2 locs2 Wk2 => ?_)
  refine W.lcmp hx hb dL_law_1092 ?_
  exact lv_if_eq (tgt := 1098) hx hb dL_law_1093 (by decide) (fun _ => kk k2 H2 locs2 h3 Wk2) (fun h => absurd (lg_same _) h)
/-- what is left of a number by 63 -/
theorem and63 (y : Int32) : ∃ k : Nat, k < 64 ∧ y &&& iI 63 = iI (k : Int) := by
  refine ⟨(y.toBitVec &&& 63#32).toNat, ?_, ?_⟩
  · rw [BitVec.toNat_and]
    exact Nat.lt_of_le_of_lt Nat.and_le_right (by decide)
  · rw [iI_nat]
    apply Int32.toBitVec_inj.1
    show y.toBitVec &&& 63#32 = BitVec.ofNat 32 (y.toBitVec &&& 63#32).toNat
    rw [BitVec.ofNat_toNat, BitVec.setWidth_eq]
theorem law_loop (C : Cx M_L_law p s m #[.ref b0] meth' c D tI tZ sd A) {L : Nat} {xs : Nat → Int32} (hX : va_X b0 L xs s s.heap) (hbl : b0 < s.heap.size) (hbA : ¬ A b0) (hL : L ≤ 384) (kend : ∀ (G1 : Mem) (H1 : Heap) (locs1 : List Loc) (ls1 : Array Slot), Wd D tI tZ ad sd A 101 (MM G1) s H1 locs1 → W p l e room_1 s m #[.ref b0] below meth c H1 locs1 101 1672 Q (F0 m 1104 ls1 [])) : ∀ (n i : Nat), L + 6 ≤ i + n → i ≤ L + 6 → ∀ (G : Mem) (H : Heap) (locs : List Loc) (ls : Array Slot), Rel G → Wd D tI tZ ad sd A 101 (MM G) s H locs → lv_has ls 4 [(0, .ref b0), (1, .ref (ad 0)), (2, .ref (ad 86)), (3, .int (iI (i : Int)))] → W p l e room_1 s m #[.ref b0] below meth c H locs 101 1672 Q (F0 m 18 ls []) := by
  obtain ⟨hx, hb, -⟩ := id C
  intro n
  induction n with
  | zero =>
    intro i hn hiL G H locs ls hR Wk hl
    have hend : ¬ i + 6 ≤ L := by omega
    refine lv_iload_n hx hb dL_law_18 rfl (lv_at hl 3 rfl) ?_
    refine lv_aload_n hx hb dL_law_19 rfl (lv_at hl 0 rfl) ?_
    refine va_slen hx hb hX hbl hbA Wk.2.2.1 dL_law_20 ?_
    refine lv_bipush (v := iI 6) hx hb dL_law_21 rfl ?_
    refine lv_isub hx hb dL_law_23 ?_
    rw [show Int32.ofNat L = iI (L : Int) from (iI_nat L).symm, iI_sub]
    refine lv_icmp_gt (tgt := 1104) hx hb dL_law_24 (by decide) (fun _ => kend G H locs ls Wk) (fun h => ?_)
    exact absurd ((iI_lt ⟨by omega, by omega⟩ ⟨by omega, by omega⟩).mpr (show (L : Int) - 6 < (i : Int) by omega)) h
  | succ n ih =>
    intro i hn hiL G H locs ls hR Wk hl
    refine lv_iload_n hx hb dL_law_18 rfl (lv_at hl 3 rfl) ?_
    refine lv_aload_n hx hb dL_law_19 rfl (lv_at hl 0 rfl) ?_
    refine va_slen hx hb hX hbl hbA Wk.2.2.1 dL_law_20 ?_
    refine lv_bipush (v := iI 6) hx hb dL_law_21 rfl ?_
    refine lv_isub hx hb dL_law_23 ?_
    rw [show Int32.ofNat L = iI (L : Int) from (iI_nat L).symm, iI_sub]
    refine lv_icmp_gt (tgt := 1104) hx hb dL_law_24 (by decide) (fun _ => kend G H locs ls Wk) (fun h => ?_)
    have hi : i + 6 ≤ L := by
      rcases Nat.lt_or_ge L (i + 6) with q | q
      · exact absurd ((iI_lt ⟨by omega, by omega⟩ ⟨by omega, by omega⟩).mpr (show (L : Int) - 6 < (i : Int) by omega)) h
      · exact q
    have kk : ∀ (G1 : Mem) (H1 : Heap) (locs1 : List Loc), Rel G1 → Wd D tI tZ ad sd A 101 (MM G1) s H1 locs1 → W p l e room_1 s m #[.ref b0] below meth c H1 locs1 101 1672 Q (F0 m 1098 ls []) := by
      intro G1 H1 locs1 hR1 Wk1
      refine lv_iinc (v := iI ((i + 6 : Nat) : Int)) (lv' := [(3, .int (iI ((i + 6 : Nat) : Int))), (0, .ref b0), (1, .ref (ad 0)), (2, .ref (ad 86))]) hx hb dL_law_1098 hl (k := 3) rfl (iI_add (i : Int) 6) (by decide) rfl (fun ls1 hl1 => ?_)
      refine lv_goto (tgt := 18) hx hb dL_law_1101 (by decide) ?_
      exact ih (i + 6) (by omega) (by omega) G1 H1 locs1 ls1 hR1 Wk1 (lv_sub hl1 [1, 2, 3, 0] rfl)
    refine lv_aload_n hx hb dL_law_27 rfl (lv_at hl 0 rfl) ?_
    refine lv_iload_n hx hb dL_law_28 rfl (lv_at hl 3 rfl) ?_
    refine va_sld hx hb hX hbl hbA Wk.2.2.1 (vp_iI (jn := i) rfl (by omega) (by omega)) dL_law_29 ?_
    refine lv_bipush (v := iI 63) hx hb dL_law_30 rfl ?_
    refine lv_iand hx hb dL_law_32 ?_
    obtain ⟨k, hk64, hk0⟩ := and63 (xs (iI (i : Int)).toNatClampNeg)
    rw [hk0]
    by_cases hk34 : k < 34
    · rcases (show k = 0 ∨ k = 1 ∨ k = 2 ∨ k = 3 ∨ k = 4 ∨ k = 5 ∨ k = 6 ∨ k = 7 ∨ k = 8 ∨ k = 9 ∨ k = 10 ∨ k = 11 ∨ k = 12 ∨ k = 13 ∨ k = 14 ∨ k = 15 ∨ k = 16 ∨ k = 17 ∨ k = 18 ∨ k = 19 ∨ k = 20 ∨ k = 21 ∨ k = 22 ∨ k = 23 ∨ k = 24 ∨ k = 25 ∨ k = 26 ∨ k = 27 ∨ k = 28 ∨ k = 29 ∨ k = 30 ∨ k = 31 ∨ k = 32 ∨ k = 33 by omega) with hk | hk | hk | hk | hk | hk | hk | hk | hk | hk | hk | hk | hk | hk | hk | hk | hk | hk | hk | hk | hk | hk | hk | hk | hk | hk | hk | hk | hk | hk | hk | hk | hk | hk
      · subst hk
        have e6 : (iI ((0 : Nat) : Int)).toInt = 0 := iI_toInt ⟨by decide, by decide⟩
        refine lv_tableIn (tgt := 184) hx hb dL_law_33 (by rw [e6]; decide) (by rw [e6]; decide) (off := 151) (by rw [e6]; rfl) (by decide) ?_
        exact law_0 C hX hbl hbA hR Wk (by omega) hL hl kk
      · subst hk
        have e6 : (iI ((1 : Nat) : Int)).toInt = 1 := iI_toInt ⟨by decide, by decide⟩
        refine lv_tableIn (tgt := 217) hx hb dL_law_33 (by rw [e6]; decide) (by rw [e6]; decide) (off := 184) (by rw [e6]; rfl) (by decide) ?_
        exact law_1 C hX hbl hbA hR Wk (by omega) hL hl kk
      · subst hk
        have e6 : (iI ((2 : Nat) : Int)).toInt = 2 := iI_toInt ⟨by decide, by decide⟩
        refine lv_tableIn (tgt := 240) hx hb dL_law_33 (by rw [e6]; decide) (by rw [e6]; decide) (off := 207) (by rw [e6]; rfl) (by decide) ?_
        exact law_2 C hX hbl hbA hR Wk (by omega) hL hl kk
      · subst hk
        have e6 : (iI ((3 : Nat) : Int)).toInt = 3 := iI_toInt ⟨by decide, by decide⟩
        refine lv_tableIn (tgt := 263) hx hb dL_law_33 (by rw [e6]; decide) (by rw [e6]; decide) (off := 230) (by rw [e6]; rfl) (by decide) ?_
        exact law_3 C hX hbl hbA hR Wk (by omega) hL hl kk
      · subst hk
        have e6 : (iI ((4 : Nat) : Int)).toInt = 4 := iI_toInt ⟨by decide, by decide⟩
        refine lv_tableIn (tgt := 326) hx hb dL_law_33 (by rw [e6]; decide) (by rw [e6]; decide) (off := 293) (by rw [e6]; rfl) (by decide) ?_
        exact law_4 C hX hbl hbA hR Wk (by omega) hL hl kk
      · subst hk
        have e6 : (iI ((5 : Nat) : Int)).toInt = 5 := iI_toInt ⟨by decide, by decide⟩
        refine lv_tableIn (tgt := 359) hx hb dL_law_33 (by rw [e6]; decide) (by rw [e6]; decide) (off := 326) (by rw [e6]; rfl) (by decide) ?_
        exact law_5 C hX hbl hbA hR Wk (by omega) hL hl kk
      · subst hk
        have e6 : (iI ((6 : Nat) : Int)).toInt = 6 := iI_toInt ⟨by decide, by decide⟩
        refine lv_tableIn (tgt := 392) hx hb dL_law_33 (by rw [e6]; decide) (by rw [e6]; decide) (off := 359) (by rw [e6]; rfl) (by decide) ?_
        exact law_6 C hX hbl hbA hR Wk (by omega) hL hl kk
      · subst hk
        have e6 : (iI ((7 : Nat) : Int)).toInt = 7 := iI_toInt ⟨by decide, by decide⟩
        refine lv_tableIn (tgt := 405) hx hb dL_law_33 (by rw [e6]; decide) (by rw [e6]; decide) (off := 372) (by rw [e6]; rfl) (by decide) ?_
        exact law_7 C hX hbl hbA hR Wk (by omega) hL hl kk
      · subst hk
        have e6 : (iI ((8 : Nat) : Int)).toInt = 8 := iI_toInt ⟨by decide, by decide⟩
        refine lv_tableIn (tgt := 428) hx hb dL_law_33 (by rw [e6]; decide) (by rw [e6]; decide) (off := 395) (by rw [e6]; rfl) (by decide) ?_
        exact law_8 C hX hbl hbA hR Wk (by omega) hL hl kk
      · subst hk
        have e6 : (iI ((9 : Nat) : Int)).toInt = 9 := iI_toInt ⟨by decide, by decide⟩
        refine lv_tableIn (tgt := 441) hx hb dL_law_33 (by rw [e6]; decide) (by rw [e6]; decide) (off := 408) (by rw [e6]; rfl) (by decide) ?_
        exact law_9 C hX hbl hbA hR Wk (by omega) hL hl kk
      · subst hk
        have e6 : (iI ((10 : Nat) : Int)).toInt = 10 := iI_toInt ⟨by decide, by decide⟩
        refine lv_tableIn (tgt := 454) hx hb dL_law_33 (by rw [e6]; decide) (by rw [e6]; decide) (off := 421) (by rw [e6]; rfl) (by decide) ?_
        exact law_10 C hX hbl hbA hR Wk (by omega) hL hl kk
      · subst hk
        have e6 : (iI ((11 : Nat) : Int)).toInt = 11 := iI_toInt ⟨by decide, by decide⟩
        refine lv_tableIn (tgt := 497) hx hb dL_law_33 (by rw [e6]; decide) (by rw [e6]; decide) (off := 464) (by rw [e6]; rfl) (by decide) ?_
        exact law_11 C hX hbl hbA hR Wk (by omega) hL hl kk
      · subst hk
        have e6 : (iI ((12 : Nat) : Int)).toInt = 12 := iI_toInt ⟨by decide, by decide⟩
        refine lv_tableIn (tgt := 540) hx hb dL_law_33 (by rw [e6]; decide) (by rw [e6]; decide) (off := 507) (by rw [e6]; rfl) (by decide) ?_
        exact law_12 C hX hbl hbA hR Wk (by omega) hL hl kk
      · subst hk
        have e6 : (iI ((13 : Nat) : Int)).toInt = 13 := iI_toInt ⟨by decide, by decide⟩
        refine lv_tableIn (tgt := 573) hx hb dL_law_33 (by rw [e6]; decide) (by rw [e6]; decide) (off := 540) (by rw [e6]; rfl) (by decide) ?_
        exact law_13 C hX hbl hbA hR Wk (by omega) hL hl kk
      · subst hk
        have e6 : (iI ((14 : Nat) : Int)).toInt = 14 := iI_toInt ⟨by decide, by decide⟩
        refine lv_tableIn (tgt := 596) hx hb dL_law_33 (by rw [e6]; decide) (by rw [e6]; decide) (off := 563) (by rw [e6]; rfl) (by decide) ?_
        exact law_14 C hX hbl hbA hR Wk (by omega) hL hl kk
      · subst hk
        have e6 : (iI ((15 : Nat) : Int)).toInt = 15 := iI_toInt ⟨by decide, by decide⟩
        refine lv_tableIn (tgt := 619) hx hb dL_law_33 (by rw [e6]; decide) (by rw [e6]; decide) (off := 586) (by rw [e6]; rfl) (by decide) ?_
        exact law_15 C hX hbl hbA hR Wk (by omega) hL hl kk
      · subst hk
        have e6 : (iI ((16 : Nat) : Int)).toInt = 16 := iI_toInt ⟨by decide, by decide⟩
        refine lv_tableIn (tgt := 642) hx hb dL_law_33 (by rw [e6]; decide) (by rw [e6]; decide) (off := 609) (by rw [e6]; rfl) (by decide) ?_
        exact law_16 C hX hbl hbA hR Wk (by omega) hL hl kk
      · subst hk
        have e6 : (iI ((17 : Nat) : Int)).toInt = 17 := iI_toInt ⟨by decide, by decide⟩
        refine lv_tableIn (tgt := 665) hx hb dL_law_33 (by rw [e6]; decide) (by rw [e6]; decide) (off := 632) (by rw [e6]; rfl) (by decide) ?_
        exact law_17 C hX hbl hbA hR Wk (by omega) hL hl kk
      · subst hk
        have e6 : (iI ((18 : Nat) : Int)).toInt = 18 := iI_toInt ⟨by decide, by decide⟩
        refine lv_tableIn (tgt := 678) hx hb dL_law_33 (by rw [e6]; decide) (by rw [e6]; decide) (off := 645) (by rw [e6]; rfl) (by decide) ?_
        exact law_18 C hX hbl hbA hR Wk (by omega) hL hl kk
      · subst hk
        have e6 : (iI ((19 : Nat) : Int)).toInt = 19 := iI_toInt ⟨by decide, by decide⟩
        refine lv_tableIn (tgt := 711) hx hb dL_law_33 (by rw [e6]; decide) (by rw [e6]; decide) (off := 678) (by rw [e6]; rfl) (by decide) ?_
        exact law_19 C hX hbl hbA hR Wk (by omega) hL hl kk
      · subst hk
        have e6 : (iI ((20 : Nat) : Int)).toInt = 20 := iI_toInt ⟨by decide, by decide⟩
        refine lv_tableIn (tgt := 754) hx hb dL_law_33 (by rw [e6]; decide) (by rw [e6]; decide) (off := 721) (by rw [e6]; rfl) (by decide) ?_
        exact law_20 C hX hbl hbA hR Wk (by omega) hL hl kk
      · subst hk
        have e6 : (iI ((21 : Nat) : Int)).toInt = 21 := iI_toInt ⟨by decide, by decide⟩
        refine lv_tableIn (tgt := 777) hx hb dL_law_33 (by rw [e6]; decide) (by rw [e6]; decide) (off := 744) (by rw [e6]; rfl) (by decide) ?_
        exact law_21 C hX hbl hbA hR Wk (by omega) hL hl kk
      · subst hk
        have e6 : (iI ((22 : Nat) : Int)).toInt = 22 := iI_toInt ⟨by decide, by decide⟩
        refine lv_tableIn (tgt := 810) hx hb dL_law_33 (by rw [e6]; decide) (by rw [e6]; decide) (off := 777) (by rw [e6]; rfl) (by decide) ?_
        exact law_22 C hX hbl hbA hR Wk (by omega) hL hl kk
      · subst hk
        have e6 : (iI ((23 : Nat) : Int)).toInt = 23 := iI_toInt ⟨by decide, by decide⟩
        refine lv_tableIn (tgt := 853) hx hb dL_law_33 (by rw [e6]; decide) (by rw [e6]; decide) (off := 820) (by rw [e6]; rfl) (by decide) ?_
        exact law_23 C hX hbl hbA hR Wk (by omega) hL hl kk
      · subst hk
        have e6 : (iI ((24 : Nat) : Int)).toInt = 24 := iI_toInt ⟨by decide, by decide⟩
        refine lv_tableIn (tgt := 866) hx hb dL_law_33 (by rw [e6]; decide) (by rw [e6]; decide) (off := 833) (by rw [e6]; rfl) (by decide) ?_
        exact law_24 C hX hbl hbA hR Wk (by omega) hL hl kk
      · subst hk
        have e6 : (iI ((25 : Nat) : Int)).toInt = 25 := iI_toInt ⟨by decide, by decide⟩
        refine lv_tableIn (tgt := 889) hx hb dL_law_33 (by rw [e6]; decide) (by rw [e6]; decide) (off := 856) (by rw [e6]; rfl) (by decide) ?_
        exact law_25 C hX hbl hbA hR Wk (by omega) hL hl kk
      · subst hk
        have e6 : (iI ((26 : Nat) : Int)).toInt = 26 := iI_toInt ⟨by decide, by decide⟩
        refine lv_tableIn (tgt := 912) hx hb dL_law_33 (by rw [e6]; decide) (by rw [e6]; decide) (off := 879) (by rw [e6]; rfl) (by decide) ?_
        exact law_26 C hX hbl hbA hR Wk (by omega) hL hl kk
      · subst hk
        have e6 : (iI ((27 : Nat) : Int)).toInt = 27 := iI_toInt ⟨by decide, by decide⟩
        refine lv_tableIn (tgt := 925) hx hb dL_law_33 (by rw [e6]; decide) (by rw [e6]; decide) (off := 892) (by rw [e6]; rfl) (by decide) ?_
        exact law_27 C hX hbl hbA hR Wk (by omega) hL hl kk
      · subst hk
        have e6 : (iI ((28 : Nat) : Int)).toInt = 28 := iI_toInt ⟨by decide, by decide⟩
        refine lv_tableIn (tgt := 968) hx hb dL_law_33 (by rw [e6]; decide) (by rw [e6]; decide) (off := 935) (by rw [e6]; rfl) (by decide) ?_
        exact law_28 C hX hbl hbA hR Wk (by omega) hL hl kk
      · subst hk
        have e6 : (iI ((29 : Nat) : Int)).toInt = 29 := iI_toInt ⟨by decide, by decide⟩
        refine lv_tableIn (tgt := 992) hx hb dL_law_33 (by rw [e6]; decide) (by rw [e6]; decide) (off := 959) (by rw [e6]; rfl) (by decide) ?_
        exact law_29 C hX hbl hbA hR Wk (by omega) hL hl kk
      · subst hk
        have e6 : (iI ((30 : Nat) : Int)).toInt = 30 := iI_toInt ⟨by decide, by decide⟩
        refine lv_tableIn (tgt := 1015) hx hb dL_law_33 (by rw [e6]; decide) (by rw [e6]; decide) (off := 982) (by rw [e6]; rfl) (by decide) ?_
        exact law_30 C hX hbl hbA hR Wk (by omega) hL hl kk
      · subst hk
        have e6 : (iI ((31 : Nat) : Int)).toInt = 31 := iI_toInt ⟨by decide, by decide⟩
        refine lv_tableIn (tgt := 1038) hx hb dL_law_33 (by rw [e6]; decide) (by rw [e6]; decide) (off := 1005) (by rw [e6]; rfl) (by decide) ?_
        exact law_31 C hX hbl hbA hR Wk (by omega) hL hl kk
      · subst hk
        have e6 : (iI ((32 : Nat) : Int)).toInt = 32 := iI_toInt ⟨by decide, by decide⟩
        refine lv_tableIn (tgt := 1061) hx hb dL_law_33 (by rw [e6]; decide) (by rw [e6]; decide) (off := 1028) (by rw [e6]; rfl) (by decide) ?_
        exact law_32 C hX hbl hbA hR Wk (by omega) hL hl kk
      · subst hk
        have e6 : (iI ((33 : Nat) : Int)).toInt = 33 := iI_toInt ⟨by decide, by decide⟩
        refine lv_tableIn (tgt := 1084) hx hb dL_law_33 (by rw [e6]; decide) (by rw [e6]; decide) (off := 1051) (by rw [e6]; rfl) (by decide) ?_
        exact law_33 C hX hbl hbA hR Wk (by omega) hL hl kk
    · have e6 : (iI (k : Int)).toInt = k := iI_toInt ⟨by omega, by omega⟩
      refine lv_tableOut (tgt := 1098) hx hb dL_law_33 (Or.inr (by rw [e6]; omega)) (by decide) ?_
      exact kk G H locs hR Wk
end LAWS
