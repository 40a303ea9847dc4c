theorem Veq.put {V V' : Mem} (h : Veq V V') (k i : Nat) (v : Int) : Veq (ug V k i v) (ug V' k i v) := by
  intro a b ha
  by_cases e : a = k ∧ b = i
  · obtain ⟨rfl, rfl⟩ := e
    rw [ug_at, ug_at]
  · rw [ug_ne e, ug_ne e]
    exact h a b ha
theorem vMv_c {V V' : Mem} (h : Veq V V') {a : Int} : ∀ k, vMv V a k = vMv V' a k
  | 0 => by
    show (_, vThere V (vAll V) a) = (_, vThere V' (vAll V') a)
    rw [h.there, h.all]
  | k + 1 => by
    unfold vMv
    rw [vMv_c h k, (h.put 3 (k / 48) ((k % 48 : Nat) : Int)).there, h.all]
theorem vDolls_c {V V' : Mem} (h : Veq V V') : ∀ k, vDolls V k = vDolls V' k
  | 0 => rfl
  | k + 1 => by
    unfold vDolls
    rw [vDolls_c h k, vReadA_c (h.put 1 k 5), h.all]
theorem rCopy_veq {G : Mem} {r q : Nat} (h : r + 12 < q ∨ q + 12 < r) (z1 : Zr (rv G r)) (z2 : Zr (rv G q)) : Veq (rv G q) (rv (rCopy G r q) r) := fun a b ha => (rCopy_at h z1 z2 a b ha).symm
theorem rCopy_q {G : Mem} {r q l : Nat} (hl : r + 12 < l) (hq : q_ok (G (l + 7)) (G (l + 8))) : q_ok (rCopy G r q (l + 7)) (rCopy G r q (l + 8)) := by
  rw [show rCopy G r q (l + 7) = G (l + 7) from funext (fun y => rCopy_ne (by omega)), show rCopy G r q (l + 8) = G (l + 8) from funext (fun y => rCopy_ne (by omega))]
  exact hq
theorem m_pCarters {G : Mem} (hV : Vok (rv G 1)) (hq : q_ok (G (65 + 7)) (G (65 + 8))) (h74 : ∀ j, 0 ≤ G 74 j ∧ G 74 j ≤ 61) {a w : Int} (ha : R32 a) (hw : R32 w) : MP M_X11_carters [.ref 0, .int (iI a), .int (iI w)] G (vi fun v g => if (0 ≤ a ∧ a ≤ 50) ∧ (0 ≤ w ∧ w ≤ 1) then ((∃ e : Nat → Int, (∀ j, j < 6 → e j = vThere (rv G 1) (vAll (rv G 1)) (a + j)) ∧ (if w.toNat = 0 then q_cnt e 36 else q_fst e 36) = v) ∧ EI G g) else (-10 = v ∧ rB G = g)) := by
  refine MP.of [some (.ref 0), some (.int (iI a)), some (.int (iI w))] (plainFor_of_name pn_X11) (Nat.le_of_ble_eq_true rfl) rfl ?_
  refine k_iload_n dX11_carters_0 rfl ?_
  refine k_iconst dX11_carters_1 ?_
  refine k_bipush dX11_carters_2 (by decide) ?_
  refine k_callSi [.int (iI _), .int (iI _), .int (iI _)] dX11_carters_4 s_X11_carters_57 rfl (m_within (by first | assumption | exact ⟨by omega, by omega⟩) ⟨by omega, by omega⟩ ⟨by omega, by omega⟩) rfl (Nat.le_of_ble_eq_true rfl) ?_
  rintro _ _ ⟨rfl, rfl⟩
  refine k_ifb_eq 17 dX11_carters_7 (by decide) (fun h7 => ?_) (fun h7 => ?_)
  · skip
    refine k_aload_n dX11_carters_17 rfl ?_
    refine k_bipush dX11_carters_18 (by decide) ?_
    refine k_callVi [.int (iI _)] dX11_carters_20 s_X11_carters_61 rfl m_refuseBad rfl (Nat.le_of_ble_eq_true rfl) sh_o0 ⟨_, rfl, rfl⟩ (Nat.le_of_ble_eq_true rfl) ?_
    rintro _ _ ⟨rfl, rfl⟩
    exact k_iret dX11_carters_23 rfl ⟨_, rfl, by (try dsimp only); first | (exfalso; omega) | (rw [if_pos (by omega)]; exact ⟨⟨e, he, rfl⟩, hE⟩) | (rw [if_neg (by omega)]; exact ⟨rfl, rfl⟩)⟩
  · skip
    refine k_iload_n dX11_carters_10 rfl ?_
    refine k_callSi [.int (iI _)] dX11_carters_11 s_X11_carters_150 rfl (m_isZeroOrOne (by assumption)) rfl (Nat.le_of_ble_eq_true rfl) ?_
    rintro _ _ ⟨rfl, rfl⟩
    refine k_ifb_ne 24 dX11_carters_14 (by decide) (fun h14 => ?_) (fun h14 => ?_)
    · skip
      refine k_aload_n dX11_carters_24 rfl ?_
      refine k_getR dX11_carters_25 f_X11_42 (Nat.le_of_ble_eq_true rfl) sh_o0 (fun _ => rfl) ?_
      refine k_aload_n dX11_carters_28 rfl ?_
      refine k_getR dX11_carters_29 f_X11_10 (Nat.le_of_ble_eq_true rfl) sh_o0 (fun _ => rfl) ?_
      refine k_iload_n dX11_carters_32 rfl ?_
      refine k_iload_n dX11_carters_33 rfl ?_
      obtain ⟨wn, rfl⟩ : ∃ k : Nat, w = (k : Int) := ⟨w.toNat, by omega⟩
      refine k_callVi [.ref _, .int (iI _), .int (iI _)] dX11_carters_34 s_X11_carters_194 rfl (m_restingPairs rd1 (by omega) hV ⟨fun _ _ _ _ _ => rfl, hq, h74⟩ ⟨by omega, by omega⟩ (by omega)) rfl (Nat.le_of_ble_eq_true rfl) sh_o64 ⟨_, rfl, rfl⟩ (Nat.le_of_ble_eq_true rfl) ?_
      rintro _ G2 ⟨⟨e, he, rfl⟩, hE⟩
      exact k_iret dX11_carters_37 rfl ⟨_, rfl, by (try dsimp only); first | (exfalso; omega) | (rw [if_pos (by omega)]; exact ⟨⟨e, he, rfl⟩, hE⟩) | (rw [if_neg (by omega)]; exact ⟨rfl, rfl⟩)⟩
    · skip
      refine k_aload_n dX11_carters_17 rfl ?_
      refine k_bipush dX11_carters_18 (by decide) ?_
      refine k_callVi [.int (iI _)] dX11_carters_20 s_X11_carters_61 rfl m_refuseBad rfl (Nat.le_of_ble_eq_true rfl) sh_o0 ⟨_, rfl, rfl⟩ (Nat.le_of_ble_eq_true rfl) ?_
      rintro _ _ ⟨rfl, rfl⟩
      exact k_iret dX11_carters_23 rfl ⟨_, rfl, by (try dsimp only); first | (exfalso; omega) | (rw [if_pos (by omega)]; exact ⟨⟨e, he, rfl⟩, hE⟩) | (rw [if_neg (by omega)]; exact ⟨rfl, rfl⟩)⟩
theorem m_pMove {G : Mem} (hV : Vok (rv G 1)) (hq : q_ok (G (65 + 7)) (G (65 + 8))) (z1 : Zr (rv G 1)) (z14 : Zr (rv G 14)) (hz1 : ∀ j, G (1 + 11) j = 0 ∨ G (1 + 11) j = 1) {a : Int} (ha : R32 a) : MP M_X11_move [.ref 0, .int (iI a)] G (vi fun v g => if 0 ≤ a ∧ a ≤ 59 then ((vMv (rv G 1) a (48 * (G 1 2).toNat)).1 = v ∧ LI 65 (rCopy G 14 1) g) else (-2 = v ∧ rB G = g)) := by
  have hv : Veq (rv G 1) (rv (rCopy G 14 1) 14) := rCopy_veq (by omega) z14 z1
  have hn : rCopy G 14 1 14 2 = G 1 2 := (hv 0 2 (by omega)).symm
  have hI : LI 65 (rCopy G 14 1) (rCopy G 14 1) := LI.rf (rCopy_q (by omega) hq)
  refine MP.of [some (.ref 0), some (.int (iI a))] (plainFor_of_name pn_X11) (Nat.le_of_ble_eq_true rfl) rfl ?_
  refine k_iload_n dX11_move_0 rfl ?_
  refine k_callSi [.int (iI _)] dX11_move_1 s_X11_move_128 rfl (m_isMinute (by assumption)) rfl (Nat.le_of_ble_eq_true rfl) ?_
  rintro _ _ ⟨rfl, rfl⟩
  refine k_ifb_ne 14 dX11_move_4 (by decide) (fun h4 => ?_) (fun h4 => ?_)
  · skip
    refine k_aload_n dX11_move_14 rfl ?_
    refine k_getR dX11_move_15 f_X11_16 (Nat.le_of_ble_eq_true rfl) sh_o0 (fun _ => rfl) ?_
    refine k_aload_n dX11_move_18 rfl ?_
    refine k_getR dX11_move_19 f_X11_10 (Nat.le_of_ble_eq_true rfl) sh_o0 (fun _ => rfl) ?_
    refine k_callVv [.ref _] dX11_move_22 s_X11_move_124 rfl (m_copyFrom rd14 rd1 (by omega) hz1) rfl (Nat.le_of_ble_eq_true rfl) (Rd.o rd14) ⟨_, rfl, rfl⟩ (Nat.le_of_ble_eq_true rfl) ?_
    rintro _ rfl
    refine k_aload_n dX11_move_25 rfl ?_
    refine k_getR dX11_move_26 f_X11_42 (Nat.le_of_ble_eq_true rfl) sh_o0 (fun _ => rfl) ?_
    refine k_aload_n dX11_move_29 rfl ?_
    refine k_getR dX11_move_30 f_X11_16 (Nat.le_of_ble_eq_true rfl) sh_o0 (fun _ => rfl) ?_
    refine k_iload_n dX11_move_33 rfl ?_
    refine k_callVi [.ref _, .int (iI _)] dX11_move_34 s_X11_move_191 rfl (m_bestMove rd14 (by omega) (hv.ok hV) hI ⟨by omega, by omega⟩) rfl (Nat.le_of_ble_eq_true rfl) sh_o64 ⟨_, rfl, rfl⟩ (Nat.le_of_ble_eq_true rfl) ?_
    rw [← vMv_c hv, hn]
    rintro _ G2 ⟨rfl, hI2⟩
    exact k_iret dX11_move_37 rfl ⟨_, rfl, by (try dsimp only); first | (exfalso; omega) | (rw [if_pos (by omega)]; exact ⟨rfl, hI2⟩) | (rw [if_neg (by omega)]; exact ⟨rfl, rfl⟩)⟩
  · skip
    refine k_aload_n dX11_move_7 rfl ?_
    refine k_bipush dX11_move_8 (by decide) ?_
    refine k_callVi [.int (iI _)] dX11_move_10 s_X11_move_61 rfl m_refuseBad rfl (Nat.le_of_ble_eq_true rfl) sh_o0 ⟨_, rfl, rfl⟩ (Nat.le_of_ble_eq_true rfl) ?_
    rintro _ _ ⟨rfl, rfl⟩
    exact k_iret dX11_move_13 rfl ⟨_, rfl, by (try dsimp only); first | (exfalso; omega) | (rw [if_pos (by omega)]; exact ⟨rfl, hI2⟩) | (rw [if_neg (by omega)]; exact ⟨rfl, rfl⟩)⟩
theorem m_pDolls {G : Mem} (hV : Vok (rv G 1)) (hD : Dok (rv G 1)) (hq : q_ok (G (76 + 7)) (G (76 + 8))) (z1 : Zr (rv G 1)) (z14 : Zr (rv G 14)) (hz1 : ∀ j, G (1 + 11) j = 0 ∨ G (1 + 11) j = 1)  : MP M_X11_dolls [.ref 0] G (vi fun v g => ((vDolls (rv G 1) (G 1 2).toNat : Nat) : Int) = v ∧ LI 76 (rCopy G 14 1) g) := by
  have hv : Veq (rv G 1) (rv (rCopy G 14 1) 14) := rCopy_veq (by omega) z14 z1
  have hn : rCopy G 14 1 14 2 = G 1 2 := (hv 0 2 (by omega)).symm
  have hI : LI 76 (rCopy G 14 1) (rCopy G 14 1) := LI.rf (rCopy_q (by omega) hq)
  refine MP.of [some (.ref 0)] (plainFor_of_name pn_X11) (Nat.le_of_ble_eq_true rfl) rfl ?_
  refine k_aload_n dX11_dolls_0 rfl ?_
  refine k_getR dX11_dolls_1 f_X11_16 (Nat.le_of_ble_eq_true rfl) sh_o0 (fun _ => rfl) ?_
  refine k_aload_n dX11_dolls_4 rfl ?_
  refine k_getR dX11_dolls_5 f_X11_10 (Nat.le_of_ble_eq_true rfl) sh_o0 (fun _ => rfl) ?_
  refine k_callVv [.ref _] dX11_dolls_8 s_X11_dolls_124 rfl (m_copyFrom rd14 rd1 (by omega) hz1) rfl (Nat.le_of_ble_eq_true rfl) (Rd.o rd14) ⟨_, rfl, rfl⟩ (Nat.le_of_ble_eq_true rfl) ?_
  rintro _ rfl
  refine k_aload_n dX11_dolls_11 rfl ?_
  refine k_getR dX11_dolls_12 f_X11_49 (Nat.le_of_ble_eq_true rfl) sh_o0 (fun _ => rfl) ?_
  refine k_aload_n dX11_dolls_15 rfl ?_
  refine k_getR dX11_dolls_16 f_X11_16 (Nat.le_of_ble_eq_true rfl) sh_o0 (fun _ => rfl) ?_
  refine k_callVi [.ref _] dX11_dolls_19 s_X11_dolls_222 rfl (m_possibleDolls rd14 (by omega) (hv.ok hV) (hD.veq hv) hI) rfl (Nat.le_of_ble_eq_true rfl) sh_o75 ⟨_, rfl, rfl⟩ (Nat.le_of_ble_eq_true rfl) ?_
  rw [← vDolls_c hv, hn]
  rintro _ G2 ⟨rfl, hI2⟩
  exact k_iret dX11_dolls_22 rfl ⟨_, rfl, rfl, hI2⟩
theorem m_pCount {G : Mem} {w : Int} (hw : R32 w) : MP M_X11_count [.ref 0, .int (iI w)] G (vi fun v g => if 0 ≤ w ∧ w ≤ 6 then ((if w = 0 then G 1 2 else if w = 1 then G 1 0 else if w = 2 then G 1 1 else if w = 3 then G 1 8 else if w = 4 then G 1 10 else if w = 5 then G 1 14 else G 53 1) = v ∧ G = g) else (-2 = v ∧ rB G = g)) := by
  refine MP.of [some (.ref 0), some (.int (iI w))] (plainFor_of_name pn_X11) (Nat.le_of_ble_eq_true rfl) rfl ?_
  refine k_iload_n dX11_count_0 rfl ?_
  refine k_iconst dX11_count_1 ?_
  refine k_bipush dX11_count_2 (by decide) ?_
  refine k_callSi [.int (iI _), .int (iI _), .int (iI _)] dX11_count_4 s_X11_count_57 rfl (m_within (by first | assumption | exact ⟨by omega, by omega⟩) ⟨by omega, by omega⟩ ⟨by omega, by omega⟩) rfl (Nat.le_of_ble_eq_true rfl) ?_
  rintro _ _ ⟨rfl, rfl⟩
  refine k_ifb_ne 17 dX11_count_7 (by decide) (fun h7 => ?_) (fun h7 => ?_)
  · skip
    refine k_aload_n dX11_count_17 rfl ?_
    refine k_iload_n dX11_count_18 rfl ?_
    refine k_callVi [.int (iI _)] dX11_count_19 s_X11_count_252 rfl (m_countOf ⟨by omega, by omega⟩) rfl (Nat.le_of_ble_eq_true rfl) sh_o0 ⟨_, rfl, rfl⟩ (Nat.le_of_ble_eq_true rfl) ?_
    rintro _ _ ⟨rfl, rfl⟩
    exact k_iret dX11_count_22 rfl ⟨_, rfl, by (try dsimp only); first | (exfalso; omega) | (rw [if_pos (by omega)]; exact ⟨rfl, rfl⟩) | (rw [if_neg (by omega)]; exact ⟨rfl, rfl⟩)⟩
  · skip
    refine k_aload_n dX11_count_10 rfl ?_
    refine k_bipush dX11_count_11 (by decide) ?_
    refine k_callVi [.int (iI _)] dX11_count_13 s_X11_count_61 rfl m_refuseBad rfl (Nat.le_of_ble_eq_true rfl) sh_o0 ⟨_, rfl, rfl⟩ (Nat.le_of_ble_eq_true rfl) ?_
    rintro _ _ ⟨rfl, rfl⟩
    exact k_iret dX11_count_16 rfl ⟨_, rfl, by (try dsimp only); first | (exfalso; omega) | (rw [if_pos (by omega)]; exact ⟨rfl, rfl⟩) | (rw [if_neg (by omega)]; exact ⟨rfl, rfl⟩)⟩
