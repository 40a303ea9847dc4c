theorem m_pWhere {G : Mem} (hV : Vok (rv G 1)) (hq : q_ok (G (65 + 7)) (G (65 + 8))) {a m : Int} (ha : R32 a) (hm : R32 m) : MP M_X11_where [.ref 0, .int (iI a), .int (iI m)] G (vi fun v g => if (0 ≤ a ∧ a ≤ 59) ∧ (0 ≤ m ∧ m ≤ 60) then (if m < a then (-1 = v ∧ G = g) else (vWhere (rv G 1) (m - a).toNat a 0 = v ∧ LI 65 G g)) else (-2 = v ∧ rB G = g)) := by
  have hI : LI 65 G G := LI.rf hq
  have h2 : 0 ≤ G 1 2 ∧ G 1 2 ≤ 6 := hV.2.2.1
  refine MP.of [some (.ref 0), some (.int (iI a)), some (.int (iI m))] (plainFor_of_name pn_X11) (Nat.le_of_ble_eq_true rfl) rfl ?_
  refine k_iload_n dX11_where_0 rfl ?_
  refine k_callSi [.int (iI _)] dX11_where_1 s_X11_where_128 rfl (m_isMinute (by assumption)) rfl (Nat.le_of_ble_eq_true rfl) ?_
  rintro _ _ ⟨rfl, rfl⟩
  refine k_ifb_eq 17 dX11_where_4 (by decide) (fun h4 => ?_) (fun h4 => ?_)
  · skip
    refine k_aload_n dX11_where_17 rfl ?_
    refine k_bipush dX11_where_18 (by decide) ?_
    refine k_callVi [.int (iI _)] dX11_where_20 s_X11_where_61 rfl m_refuseBad rfl (Nat.le_of_ble_eq_true rfl) sh_o0 ⟨_, rfl, rfl⟩ (Nat.le_of_ble_eq_true rfl) ?_
    rintro _ _ ⟨rfl, rfl⟩
    exact k_iret dX11_where_23 rfl ⟨_, rfl, by (try dsimp only); first | (exfalso; omega) | (rw [if_pos (by omega), if_pos (by omega)]; exact ⟨rfl, rfl⟩) | (rw [if_pos (by omega), if_neg (by omega)]; exact ⟨rfl, hI2⟩) | (rw [if_neg (by omega)]; exact ⟨rfl, rfl⟩)⟩
  · skip
    refine k_iload_n dX11_where_7 rfl ?_
    refine k_iconst dX11_where_8 ?_
    refine k_bipush dX11_where_9 (by decide) ?_
    refine k_callSi [.int (iI _), .int (iI _), .int (iI _)] dX11_where_11 s_X11_where_57 rfl (m_within (by first | assumption | exact ⟨by omega, by omega⟩) ⟨by omega, by omega⟩ ⟨by omega, by omega⟩) rfl (Nat.le_of_ble_eq_true rfl) ?_
    rintro _ _ ⟨rfl, rfl⟩
    refine k_ifb_ne 24 dX11_where_14 (by decide) (fun h14 => ?_) (fun h14 => ?_)
    · skip
      refine k_iload_n dX11_where_24 rfl ?_
      refine k_iload_n dX11_where_25 rfl ?_
      refine k_icmp_ge 33 dX11_where_26 (by decide) ⟨by omega, by omega⟩ ⟨by omega, by omega⟩ (fun h26 => ?_) (fun h26 => ?_)
      · skip
        refine k_aload_n dX11_where_33 rfl ?_
        refine k_getR dX11_where_34 f_X11_42 (Nat.le_of_ble_eq_true rfl) sh_o0 (fun _ => rfl) ?_
        refine k_aload_n dX11_where_37 rfl ?_
        refine k_getR dX11_where_38 f_X11_10 (Nat.le_of_ble_eq_true rfl) sh_o0 (fun _ => rfl) ?_
        refine k_iload_n dX11_where_41 rfl ?_
        refine k_iload_n dX11_where_42 rfl ?_
        refine k_callVi [.ref _, .int (iI _), .int (iI _)] dX11_where_43 s_X11_where_164 rfl (m_cellOfDrive rd1 (by omega) hV hI ⟨by omega, by omega⟩ (by omega)) rfl (Nat.le_of_ble_eq_true rfl) sh_o64 ⟨_, rfl, rfl⟩ (Nat.le_of_ble_eq_true rfl) ?_
        rintro _ G2 ⟨rfl, hI2⟩
        exact k_iret dX11_where_46 rfl ⟨_, rfl, by (try dsimp only); first | (exfalso; omega) | (rw [if_pos (by omega), if_pos (by omega)]; exact ⟨rfl, rfl⟩) | (rw [if_pos (by omega), if_neg (by omega)]; exact ⟨rfl, hI2⟩) | (rw [if_neg (by omega)]; exact ⟨rfl, rfl⟩)⟩
      · skip
        refine k_iconst dX11_where_29 ?_
        refine k_goto 46 dX11_where_30 (by decide) ?_
        exact k_iret dX11_where_46 rfl ⟨_, rfl, by (try dsimp only); first | (exfalso; omega) | (rw [if_pos (by omega), if_pos (by omega)]; exact ⟨rfl, rfl⟩) | (rw [if_pos (by omega), if_neg (by omega)]; exact ⟨rfl, hI2⟩) | (rw [if_neg (by omega)]; exact ⟨rfl, rfl⟩)⟩
    · skip
      refine k_aload_n dX11_where_17 rfl ?_
      refine k_bipush dX11_where_18 (by decide) ?_
      refine k_callVi [.int (iI _)] dX11_where_20 s_X11_where_61 rfl m_refuseBad rfl (Nat.le_of_ble_eq_true rfl) sh_o0 ⟨_, rfl, rfl⟩ (Nat.le_of_ble_eq_true rfl) ?_
      rintro _ _ ⟨rfl, rfl⟩
      exact k_iret dX11_where_23 rfl ⟨_, rfl, by (try dsimp only); first | (exfalso; omega) | (rw [if_pos (by omega), if_pos (by omega)]; exact ⟨rfl, rfl⟩) | (rw [if_pos (by omega), if_neg (by omega)]; exact ⟨rfl, hI2⟩) | (rw [if_neg (by omega)]; exact ⟨rfl, rfl⟩)⟩
theorem m_pThere {G : Mem} (hV : Vok (rv G 1)) (hq : q_ok (G (65 + 7)) (G (65 + 8))) {a : Int} (ha : R32 a) : MP M_X11_there [.ref 0, .int (iI a)] G (vi fun v g => if 0 ≤ a ∧ a ≤ 59 then ((if vThere (rv G 1) (vAll (rv G 1)) a = 61 then -1 else vThere (rv G 1) (vAll (rv G 1)) a) = v ∧ LI 65 G g) else (-2 = v ∧ rB G = g)) := by
  have hI : LI 65 G G := LI.rf hq
  have h2 : 0 ≤ G 1 2 ∧ G 1 2 ≤ 6 := hV.2.2.1
  refine MP.of [some (.ref 0), some (.int (iI a))] (plainFor_of_name pn_X11) (Nat.le_of_ble_eq_true rfl) rfl ?_
  refine k_iload_n dX11_there_0 rfl ?_
  refine k_callSi [.int (iI _)] dX11_there_1 s_X11_there_128 rfl (m_isMinute (by assumption)) rfl (Nat.le_of_ble_eq_true rfl) ?_
  rintro _ _ ⟨rfl, rfl⟩
  refine k_ifb_ne 14 dX11_there_4 (by decide) (fun h4 => ?_) (fun h4 => ?_)
  · skip
    refine k_aload_n dX11_there_14 rfl ?_
    refine k_getR dX11_there_15 f_X11_42 (Nat.le_of_ble_eq_true rfl) sh_o0 (fun _ => rfl) ?_
    refine k_aload_n dX11_there_18 rfl ?_
    refine k_getR dX11_there_19 f_X11_10 (Nat.le_of_ble_eq_true rfl) sh_o0 (fun _ => rfl) ?_
    refine k_aload_n dX11_there_22 rfl ?_
    refine k_getR dX11_there_23 f_X11_10 (Nat.le_of_ble_eq_true rfl) sh_o0 (fun _ => rfl) ?_
    refine k_callVi [] dX11_there_26 s_X11_there_153 rfl (m_allL rd1 (by omega) hV hI) rfl (Nat.le_of_ble_eq_true rfl) (Rd.o rd1) ⟨_, rfl, rfl⟩ (Nat.le_of_ble_eq_true rfl) ?_
    rintro _ _ ⟨rfl, rfl⟩
    refine k_iload_n dX11_there_29 rfl ?_
    refine k_callVi [.ref _, .int (iI _), .int (iI _)] dX11_there_30 s_X11_there_167 rfl (m_endOfDrive rd1 (by omega) hV hI (vAll_lt hV) ⟨by omega, by omega⟩) rfl (Nat.le_of_ble_eq_true rfl) sh_o64 ⟨_, rfl, rfl⟩ (Nat.le_of_ble_eq_true rfl) ?_
    rintro _ G2 ⟨rfl, hI2⟩
    refine k_callSi [.int (iI _)] dX11_there_33 s_X11_there_170 rfl (m_noneIfNever (vThere_b ⟨by omega, by omega⟩)) rfl (Nat.le_of_ble_eq_true rfl) ?_
    rintro _ _ ⟨rfl, rfl⟩
    exact k_iret dX11_there_36 rfl ⟨_, rfl, by (try dsimp only); first | (exfalso; omega) | (rw [if_pos (by omega)]; exact ⟨rfl, hI2⟩) | (rw [if_neg (by omega)]; exact ⟨rfl, rfl⟩)⟩
  · skip
    refine k_aload_n dX11_there_7 rfl ?_
    refine k_bipush dX11_there_8 (by decide) ?_
    refine k_callVi [.int (iI _)] dX11_there_10 s_X11_there_61 rfl m_refuseBad rfl (Nat.le_of_ble_eq_true rfl) sh_o0 ⟨_, rfl, rfl⟩ (Nat.le_of_ble_eq_true rfl) ?_
    rintro _ _ ⟨rfl, rfl⟩
    exact k_iret dX11_there_13 rfl ⟨_, rfl, by (try dsimp only); first | (exfalso; omega) | (rw [if_pos (by omega)]; exact ⟨rfl, hI2⟩) | (rw [if_neg (by omega)]; exact ⟨rfl, rfl⟩)⟩
theorem m_pSoonest {G : Mem} (hV : Vok (rv G 1)) (hq : q_ok (G (65 + 7)) (G (65 + 8))) {a : Int} (ha : R32 a) : MP M_X11_soonest [.ref 0, .int (iI a)] G (vi fun v g => if 0 ≤ a ∧ a ≤ 59 then ((if vSoonest (rv G 1) (vAll (rv G 1)) a = 61 then -1 else vSoonest (rv G 1) (vAll (rv G 1)) a) = v ∧ LI 65 G g) else (-2 = v ∧ rB G = g)) := by
  have hI : LI 65 G G := LI.rf hq
  have h2 : 0 ≤ G 1 2 ∧ G 1 2 ≤ 6 := hV.2.2.1
  refine MP.of [some (.ref 0), some (.int (iI a))] (plainFor_of_name pn_X11) (Nat.le_of_ble_eq_true rfl) rfl ?_
  refine k_iload_n dX11_soonest_0 rfl ?_
  refine k_callSi [.int (iI _)] dX11_soonest_1 s_X11_soonest_128 rfl (m_isMinute (by assumption)) rfl (Nat.le_of_ble_eq_true rfl) ?_
  rintro _ _ ⟨rfl, rfl⟩
  refine k_ifb_ne 14 dX11_soonest_4 (by decide) (fun h4 => ?_) (fun h4 => ?_)
  · skip
    refine k_aload_n dX11_soonest_14 rfl ?_
    refine k_getR dX11_soonest_15 f_X11_42 (Nat.le_of_ble_eq_true rfl) sh_o0 (fun _ => rfl) ?_
    refine k_aload_n dX11_soonest_18 rfl ?_
    refine k_getR dX11_soonest_19 f_X11_10 (Nat.le_of_ble_eq_true rfl) sh_o0 (fun _ => rfl) ?_
    refine k_aload_n dX11_soonest_22 rfl ?_
    refine k_getR dX11_soonest_23 f_X11_10 (Nat.le_of_ble_eq_true rfl) sh_o0 (fun _ => rfl) ?_
    refine k_callVi [] dX11_soonest_26 s_X11_soonest_153 rfl (m_allL rd1 (by omega) hV hI) rfl (Nat.le_of_ble_eq_true rfl) (Rd.o rd1) ⟨_, rfl, rfl⟩ (Nat.le_of_ble_eq_true rfl) ?_
    rintro _ _ ⟨rfl, rfl⟩
    refine k_iload_n dX11_soonest_29 rfl ?_
    refine k_callVi [.ref _, .int (iI _), .int (iI _)] dX11_soonest_30 s_X11_soonest_173 rfl (m_soonestEnd rd1 (by omega) hV hI (vAll_lt hV) ⟨by omega, by omega⟩) rfl (Nat.le_of_ble_eq_true rfl) sh_o64 ⟨_, rfl, rfl⟩ (Nat.le_of_ble_eq_true rfl) ?_
    rintro _ G2 ⟨rfl, hI2⟩
    refine k_callSi [.int (iI _)] dX11_soonest_33 s_X11_soonest_170 rfl (m_noneIfNever (vSoonest_b ⟨by omega, by omega⟩)) rfl (Nat.le_of_ble_eq_true rfl) ?_
    rintro _ _ ⟨rfl, rfl⟩
    exact k_iret dX11_soonest_36 rfl ⟨_, rfl, by (try dsimp only); first | (exfalso; omega) | (rw [if_pos (by omega)]; exact ⟨rfl, hI2⟩) | (rw [if_neg (by omega)]; exact ⟨rfl, rfl⟩)⟩
  · skip
    refine k_aload_n dX11_soonest_7 rfl ?_
    refine k_bipush dX11_soonest_8 (by decide) ?_
    refine k_callVi [.int (iI _)] dX11_soonest_10 s_X11_soonest_61 rfl m_refuseBad rfl (Nat.le_of_ble_eq_true rfl) sh_o0 ⟨_, rfl, rfl⟩ (Nat.le_of_ble_eq_true rfl) ?_
    rintro _ _ ⟨rfl, rfl⟩
    exact k_iret dX11_soonest_13 rfl ⟨_, rfl, by (try dsimp only); first | (exfalso; omega) | (rw [if_pos (by omega)]; exact ⟨rfl, hI2⟩) | (rw [if_neg (by omega)]; exact ⟨rfl, rfl⟩)⟩
theorem m_pStart {G : Mem} (hV : Vok (rv G 1)) (hq : q_ok (G (65 + 7)) (G (65 + 8))) {a : Int} (ha : R32 a) : MP M_X11_start [.ref 0, .int (iI a)] G (vi fun v g => if 0 ≤ a ∧ a ≤ 59 then (vStart (rv G 1) (60 - a).toNat a (-1) 60 = v ∧ LI 65 G g) else (-2 = v ∧ rB G = g)) := by
  have hI : LI 65 G G := LI.rf hq
  have h2 : 0 ≤ G 1 2 ∧ G 1 2 ≤ 6 := hV.2.2.1
  refine MP.of [some (.ref 0), some (.int (iI a))] (plainFor_of_name pn_X11) (Nat.le_of_ble_eq_true rfl) rfl ?_
  refine k_iload_n dX11_start_0 rfl ?_
  refine k_callSi [.int (iI _)] dX11_start_1 s_X11_start_128 rfl (m_isMinute (by assumption)) rfl (Nat.le_of_ble_eq_true rfl) ?_
  rintro _ _ ⟨rfl, rfl⟩
  refine k_ifb_ne 14 dX11_start_4 (by decide) (fun h4 => ?_) (fun h4 => ?_)
  · skip
    refine k_aload_n dX11_start_14 rfl ?_
    refine k_getR dX11_start_15 f_X11_42 (Nat.le_of_ble_eq_true rfl) sh_o0 (fun _ => rfl) ?_
    refine k_aload_n dX11_start_18 rfl ?_
    refine k_getR dX11_start_19 f_X11_10 (Nat.le_of_ble_eq_true rfl) sh_o0 (fun _ => rfl) ?_
    refine k_iload_n dX11_start_22 rfl ?_
    refine k_callVi [.ref _, .int (iI _)] dX11_start_23 s_X11_start_176 rfl (m_bestStart rd1 (by omega) hV hI ⟨by omega, by omega⟩) rfl (Nat.le_of_ble_eq_true rfl) sh_o64 ⟨_, rfl, rfl⟩ (Nat.le_of_ble_eq_true rfl) ?_
    rintro _ G2 ⟨rfl, hI2⟩
    exact k_iret dX11_start_26 rfl ⟨_, rfl, by (try dsimp only); first | (exfalso; omega) | (rw [if_pos (by omega)]; exact ⟨rfl, hI2⟩) | (rw [if_neg (by omega)]; exact ⟨rfl, rfl⟩)⟩
  · skip
    refine k_aload_n dX11_start_7 rfl ?_
    refine k_bipush dX11_start_8 (by decide) ?_
    refine k_callVi [.int (iI _)] dX11_start_10 s_X11_start_61 rfl m_refuseBad rfl (Nat.le_of_ble_eq_true rfl) sh_o0 ⟨_, rfl, rfl⟩ (Nat.le_of_ble_eq_true rfl) ?_
    rintro _ _ ⟨rfl, rfl⟩
    exact k_iret dX11_start_13 rfl ⟨_, rfl, by (try dsimp only); first | (exfalso; omega) | (rw [if_pos (by omega)]; exact ⟨rfl, hI2⟩) | (rw [if_neg (by omega)]; exact ⟨rfl, rfl⟩)⟩
theorem m_pFined {G : Mem} (hV : Vok (rv G 1)) (hq : q_ok (G (65 + 7)) (G (65 + 8))) (hS : Sok (rv G 1)) {a w : Int} (ha : R32 a) (hw : R32 w) : MP M_X11_fined [.ref 0, .int (iI a), .int (iI w)] G (vi fun v g => if (0 ≤ a ∧ a ≤ 59) ∧ (0 ≤ w ∧ w ≤ 2) then ((if w.toNat = 0 then vFi (rv G 1) a (vNs (rv G 1) a) else if w.toNat = 1 then vFe (rv G 1) a (vNs (rv G 1) a) else (vPa (rv G 1) a (vNs (rv G 1) a) : Int)) = v ∧ LI 65 G g) else (-10 = v ∧ rB G = g)) := by
  have hI : LI 65 G G := LI.rf hq
  have h2 : 0 ≤ G 1 2 ∧ G 1 2 ≤ 6 := hV.2.2.1
  refine MP.of [some (.ref 0), some (.int (iI a)), some (.int (iI w))] (plainFor_of_name pn_X11) (Nat.le_of_ble_eq_true rfl) rfl ?_
  refine k_iload_n dX11_fined_0 rfl ?_
  refine k_callSi [.int (iI _)] dX11_fined_1 s_X11_fined_128 rfl (m_isMinute (by assumption)) rfl (Nat.le_of_ble_eq_true rfl) ?_
  rintro _ _ ⟨rfl, rfl⟩
  refine k_ifb_eq 16 dX11_fined_4 (by decide) (fun h4 => ?_) (fun h4 => ?_)
  · skip
    refine k_aload_n dX11_fined_16 rfl ?_
    refine k_bipush dX11_fined_17 (by decide) ?_
    refine k_callVi [.int (iI _)] dX11_fined_19 s_X11_fined_61 rfl m_refuseBad rfl (Nat.le_of_ble_eq_true rfl) sh_o0 ⟨_, rfl, rfl⟩ (Nat.le_of_ble_eq_true rfl) ?_
    rintro _ _ ⟨rfl, rfl⟩
    exact k_iret dX11_fined_22 rfl ⟨_, rfl, by (try dsimp only); first | (exfalso; omega) | (rw [if_pos (by omega)]; exact ⟨rfl, hI2⟩) | (rw [if_neg (by omega)]; exact ⟨rfl, rfl⟩)⟩
  · skip
    refine k_iload_n dX11_fined_7 rfl ?_
    refine k_iconst dX11_fined_8 ?_
    refine k_iconst dX11_fined_9 ?_
    refine k_callSi [.int (iI _), .int (iI _), .int (iI _)] dX11_fined_10 s_X11_fined_57 rfl (m_within (by first | assumption | exact ⟨by omega, by omega⟩) ⟨by omega, by omega⟩ ⟨by omega, by omega⟩) rfl (Nat.le_of_ble_eq_true rfl) ?_
    rintro _ _ ⟨rfl, rfl⟩
    refine k_ifb_ne 23 dX11_fined_13 (by decide) (fun h13 => ?_) (fun h13 => ?_)
    · skip
      refine k_aload_n dX11_fined_23 rfl ?_
      refine k_getR dX11_fined_24 f_X11_42 (Nat.le_of_ble_eq_true rfl) sh_o0 (fun _ => rfl) ?_
      refine k_aload_n dX11_fined_27 rfl ?_
      refine k_getR dX11_fined_28 f_X11_10 (Nat.le_of_ble_eq_true rfl) sh_o0 (fun _ => rfl) ?_
      refine k_iload_n dX11_fined_31 rfl ?_
      refine k_iload_n dX11_fined_32 rfl ?_
      obtain ⟨wn, rfl⟩ : ∃ k : Nat, w = (k : Int) := ⟨w.toNat, by omega⟩
      refine k_callVi [.ref _, .int (iI _), .int (iI _)] dX11_fined_33 s_X11_fined_185 rfl (m_driveBySpeeds rd1 (by omega) hV hI hS ⟨by omega, by omega⟩ (by omega)) rfl (Nat.le_of_ble_eq_true rfl) sh_o64 ⟨_, rfl, rfl⟩ (Nat.le_of_ble_eq_true rfl) ?_
      rintro _ G2 ⟨rfl, hI2⟩
      exact k_iret dX11_fined_36 rfl ⟨_, rfl, by (try dsimp only); first | (exfalso; omega) | (rw [if_pos (by omega)]; exact ⟨rfl, hI2⟩) | (rw [if_neg (by omega)]; exact ⟨rfl, rfl⟩)⟩
    · skip
      refine k_aload_n dX11_fined_16 rfl ?_
      refine k_bipush dX11_fined_17 (by decide) ?_
      refine k_callVi [.int (iI _)] dX11_fined_19 s_X11_fined_61 rfl m_refuseBad rfl (Nat.le_of_ble_eq_true rfl) sh_o0 ⟨_, rfl, rfl⟩ (Nat.le_of_ble_eq_true rfl) ?_
      rintro _ _ ⟨rfl, rfl⟩
      exact k_iret dX11_fined_22 rfl ⟨_, rfl, by (try dsimp only); first | (exfalso; omega) | (rw [if_pos (by omega)]; exact ⟨rfl, hI2⟩) | (rw [if_neg (by omega)]; exact ⟨rfl, rfl⟩)⟩
theorem m_pLook {G : Mem} (hV : Vok (rv G 1)) (hD : Dok (rv G 1)) (hq : q_ok (G (76 + 7)) (G (76 + 8))) {a : Int} (ha : R32 a) : MP M_X11_look [.ref 0, .int (iI a)] G (vi fun v g => if 0 ≤ a ∧ a ≤ 59 then (vBCA (rv G 1) a (vFitA (rv G 1)) = v ∧ FI G g) else (-2 = v ∧ rB G = g)) := by
  have hI : LI 76 G G := LI.rf hq
  have h2 : 0 ≤ G 1 2 ∧ G 1 2 ≤ 6 := hV.2.2.1
  refine MP.of [some (.ref 0), some (.int (iI a))] (plainFor_of_name pn_X11) (Nat.le_of_ble_eq_true rfl) rfl ?_
  refine k_iload_n dX11_look_0 rfl ?_
  refine k_callSi [.int (iI _)] dX11_look_1 s_X11_look_128 rfl (m_isMinute (by assumption)) rfl (Nat.le_of_ble_eq_true rfl) ?_
  rintro _ _ ⟨rfl, rfl⟩
  refine k_ifb_ne 14 dX11_look_4 (by decide) (fun h4 => ?_) (fun h4 => ?_)
  · skip
    refine k_aload_n dX11_look_14 rfl ?_
    refine k_getR dX11_look_15 f_X11_49 (Nat.le_of_ble_eq_true rfl) sh_o0 (fun _ => rfl) ?_
    refine k_aload_n dX11_look_18 rfl ?_
    refine k_getR dX11_look_19 f_X11_10 (Nat.le_of_ble_eq_true rfl) sh_o0 (fun _ => rfl) ?_
    refine k_aload_n dX11_look_22 rfl ?_
    refine k_getR dX11_look_23 f_X11_49 (Nat.le_of_ble_eq_true rfl) sh_o0 (fun _ => rfl) ?_
    refine k_aload_n dX11_look_26 rfl ?_
    refine k_getR dX11_look_27 f_X11_10 (Nat.le_of_ble_eq_true rfl) sh_o0 (fun _ => rfl) ?_
    refine k_callVl [.ref _] dX11_look_30 s_X11_look_204 rfl (m_fittingSets rd1 (by omega) hV hD hI) rfl (Nat.le_of_ble_eq_true rfl) sh_o75 ⟨_, rfl, rfl⟩ (Nat.le_of_ble_eq_true rfl) ?_
    rintro _ G2 ⟨rfl, hI2⟩
    refine k_iload_n dX11_look_33 rfl ?_
    refine k_callVi [.ref _, .long (lI _), .int (iI _)] dX11_look_34 s_X11_look_218 rfl (m_bestCell rd1 (by omega) hV ⟨by omega, by omega⟩ hI2 (vFitA_lt hV)) rfl (Nat.le_of_ble_eq_true rfl) sh_o75 ⟨_, rfl, rfl⟩ (Nat.le_of_ble_eq_true rfl) ?_
    rintro _ G3 ⟨rfl, hF⟩
    exact k_iret dX11_look_37 rfl ⟨_, rfl, by (try dsimp only); first | (exfalso; omega) | (rw [if_pos (by omega)]; exact ⟨rfl, hF⟩) | (rw [if_neg (by omega)]; exact ⟨rfl, rfl⟩)⟩
  · skip
    refine k_aload_n dX11_look_7 rfl ?_
    refine k_bipush dX11_look_8 (by decide) ?_
    refine k_callVi [.int (iI _)] dX11_look_10 s_X11_look_61 rfl m_refuseBad rfl (Nat.le_of_ble_eq_true rfl) sh_o0 ⟨_, rfl, rfl⟩ (Nat.le_of_ble_eq_true rfl) ?_
    rintro _ _ ⟨rfl, rfl⟩
    exact k_iret dX11_look_13 rfl ⟨_, rfl, by (try dsimp only); first | (exfalso; omega) | (rw [if_pos (by omega)]; exact ⟨rfl, hF⟩) | (rw [if_neg (by omega)]; exact ⟨rfl, rfl⟩)⟩
theorem m_pOut {G : Mem} (hV : Vok (rv G 1)) (hD : Dok (rv G 1)) (hq : q_ok (G (76 + 7)) (G (76 + 8))) {w : Int} (hw : R32 w) : MP M_X11_out [.ref 0, .int (iI w)] G (vi fun v g => if 0 ≤ w ∧ w ≤ 1 then ((if w = 0 then ((q_p64 (vFitA (rv G 1)) 64 : Nat) : Int) else vInA (rv G 1) (vFitA (rv G 1))) = v ∧ LI 76 G g) else (-10 = v ∧ rB G = g)) := by
  have hI : LI 76 G G := LI.rf hq
  have h2 : 0 ≤ G 1 2 ∧ G 1 2 ≤ 6 := hV.2.2.1
  refine MP.of [some (.ref 0), some (.int (iI w)), none, none] (plainFor_of_name pn_X11) (Nat.le_of_ble_eq_true rfl) rfl ?_
  refine k_iload_n dX11_out_0 rfl ?_
  refine k_callSi [.int (iI _)] dX11_out_1 s_X11_out_150 rfl (m_isZeroOrOne (by assumption)) rfl (Nat.le_of_ble_eq_true rfl) ?_
  rintro _ _ ⟨rfl, rfl⟩
  refine k_ifb_ne 14 dX11_out_4 (by decide) (fun h4 => ?_) (fun h4 => ?_)
  · skip
    refine k_aload_n dX11_out_14 rfl ?_
    refine k_getR dX11_out_15 f_X11_49 (Nat.le_of_ble_eq_true rfl) sh_o0 (fun _ => rfl) ?_
    refine k_aload_n dX11_out_18 rfl ?_
    refine k_getR dX11_out_19 f_X11_10 (Nat.le_of_ble_eq_true rfl) sh_o0 (fun _ => rfl) ?_
    refine k_callVl [.ref _] dX11_out_22 s_X11_out_204 rfl (m_fittingSets rd1 (by omega) hV hD hI) rfl (Nat.le_of_ble_eq_true rfl) sh_o75 ⟨_, rfl, rfl⟩ (Nat.le_of_ble_eq_true rfl) ?_
    rintro _ G2 ⟨rfl, hI2⟩
    refine k_lstore_n (L' := [_, _, _, _]) dX11_out_25 (Nat.le_of_ble_eq_true rfl) rfl ?_
    refine k_iload_n dX11_out_26 rfl ?_
    refine k_if_ne 37 dX11_out_27 (by decide) ⟨by omega, by omega⟩ (fun h27 => ?_) (fun h27 => ?_)
    · skip
      refine k_aload_n dX11_out_37 rfl ?_
      refine k_getR dX11_out_38 f_X11_49 (Nat.le_of_ble_eq_true rfl) sh_o0 (fun _ => rfl) ?_
      refine k_aload_n dX11_out_41 rfl ?_
      refine k_getR dX11_out_42 f_X11_10 (Nat.le_of_ble_eq_true rfl) sh_o0 (fun _ => rfl) ?_
      refine k_lload_n dX11_out_45 rfl ?_
      refine k_callVi [.ref _, .long (lI _)] dX11_out_46 s_X11_out_214 rfl (m_inAllSets rd1 (by omega) hV hI2 (vFitA_lt hV)) rfl (Nat.le_of_ble_eq_true rfl) sh_o75 ⟨_, rfl, rfl⟩ (Nat.le_of_ble_eq_true rfl) ?_
      rintro _ _ ⟨rfl, rfl⟩
      exact k_iret dX11_out_49 rfl ⟨_, rfl, by (try dsimp only); first | (exfalso; omega) | (rw [if_pos (by omega), if_pos (by omega)]; exact ⟨rfl, hI2⟩) | (rw [if_pos (by omega), if_neg (by omega)]; exact ⟨rfl, hI2⟩) | (rw [if_neg (by omega)]; exact ⟨rfl, rfl⟩)⟩
    · skip
      refine k_lload_n dX11_out_30 rfl ?_
      refine k_callSi [.long (lI _)] dX11_out_31 s_X11_out_208 rfl (m_bitCountL (vFitA_lt hV)) rfl (Nat.le_of_ble_eq_true rfl) ?_
      rintro _ _ ⟨rfl, rfl⟩
      refine k_goto 49 dX11_out_34 (by decide) ?_
      exact k_iret dX11_out_49 rfl ⟨_, rfl, by (try dsimp only); first | (exfalso; omega) | (rw [if_pos (by omega), if_pos (by omega)]; exact ⟨rfl, hI2⟩) | (rw [if_pos (by omega), if_neg (by omega)]; exact ⟨rfl, hI2⟩) | (rw [if_neg (by omega)]; exact ⟨rfl, rfl⟩)⟩
  · skip
    refine k_aload_n dX11_out_7 rfl ?_
    refine k_bipush dX11_out_8 (by decide) ?_
    refine k_callVi [.int (iI _)] dX11_out_10 s_X11_out_61 rfl m_refuseBad rfl (Nat.le_of_ble_eq_true rfl) sh_o0 ⟨_, rfl, rfl⟩ (Nat.le_of_ble_eq_true rfl) ?_
    rintro _ _ ⟨rfl, rfl⟩
    exact k_iret dX11_out_13 rfl ⟨_, rfl, by (try dsimp only); first | (exfalso; omega) | (rw [if_pos (by omega), if_pos (by omega)]; exact ⟨rfl, hI2⟩) | (rw [if_pos (by omega), if_neg (by omega)]; exact ⟨rfl, hI2⟩) | (rw [if_neg (by omega)]; exact ⟨rfl, rfl⟩)⟩
theorem m_pLimit {G : Mem} (hV : Vok (rv G 1)) (hq : q_ok (G (55 + 7)) (G (55 + 8))) {x t w : Int} (hx : R32 x) (ht : R32 t) (hw : R32 w) : MP M_X11_limit [.ref 0, .int (iI x), .int (iI t), .int (iI w)] G (vi fun v g => if (0 ≤ x ∧ x ≤ 47) ∧ (0 ≤ t ∧ t ≤ 59) ∧ (0 ≤ w ∧ w ≤ 1) then ((if w = 0 then vLim (rv G 1) t (vAll (rv G 1)) x else (if q_nb (G 1 0) (vP (rv G 1) t) (vH (rv G 1) t) (vAll (rv G 1)) x (-1) (G 1 2).toNat = 1048576 then -1 else q_nb (G 1 0) (vP (rv G 1) t) (vH (rv G 1) t) (vAll (rv G 1)) x (-1) (G 1 2).toNat % 8)) = v ∧ LI 55 G g) else (-10 = v ∧ rB G = g)) := by
  have hI : LI 55 G G := LI.rf hq
  have h2 : 0 ≤ G 1 2 ∧ G 1 2 ≤ 6 := hV.2.2.1
  have h0 : 0 ≤ G 1 0 ∧ G 1 0 ≤ 47 := hV.1
  refine MP.of [some (.ref 0), some (.int (iI x)), some (.int (iI t)), some (.int (iI w))] (plainFor_of_name pn_X11) (Nat.le_of_ble_eq_true rfl) rfl ?_
  refine k_iload_n dX11_limit_0 rfl ?_
  refine k_callSi [.int (iI _)] dX11_limit_1 s_X11_limit_78 rfl (m_isCell (by assumption)) rfl (Nat.le_of_ble_eq_true rfl) ?_
  rintro _ _ ⟨rfl, rfl⟩
  refine k_ifb_eq 21 dX11_limit_4 (by decide) (fun h4 => ?_) (fun h4 => ?_)
  · skip
    refine k_aload_n dX11_limit_21 rfl ?_
    refine k_bipush dX11_limit_22 (by decide) ?_
    refine k_callVi [.int (iI _)] dX11_limit_24 s_X11_limit_61 rfl m_refuseBad rfl (Nat.le_of_ble_eq_true rfl) sh_o0 ⟨_, rfl, rfl⟩ (Nat.le_of_ble_eq_true rfl) ?_
    rintro _ _ ⟨rfl, rfl⟩
    exact k_iret dX11_limit_27 rfl ⟨_, rfl, by (try dsimp only); first | (exfalso; omega) | (rw [if_pos (by omega), if_pos (by omega)]; exact ⟨rfl, hS.li⟩) | (rw [if_pos (by omega), if_neg (by omega)]; exact ⟨rfl, hS.li⟩) | (rw [if_neg (by omega)]; exact ⟨rfl, rfl⟩)⟩
  · skip
    refine k_iload_n dX11_limit_7 rfl ?_
    refine k_callSi [.int (iI _)] dX11_limit_8 s_X11_limit_128 rfl (m_isMinute (by assumption)) rfl (Nat.le_of_ble_eq_true rfl) ?_
    rintro _ _ ⟨rfl, rfl⟩
    refine k_ifb_eq 21 dX11_limit_11 (by decide) (fun h11 => ?_) (fun h11 => ?_)
    · skip
      refine k_aload_n dX11_limit_21 rfl ?_
      refine k_bipush dX11_limit_22 (by decide) ?_
      refine k_callVi [.int (iI _)] dX11_limit_24 s_X11_limit_61 rfl m_refuseBad rfl (Nat.le_of_ble_eq_true rfl) sh_o0 ⟨_, rfl, rfl⟩ (Nat.le_of_ble_eq_true rfl) ?_
      rintro _ _ ⟨rfl, rfl⟩
      exact k_iret dX11_limit_27 rfl ⟨_, rfl, by (try dsimp only); first | (exfalso; omega) | (rw [if_pos (by omega), if_pos (by omega)]; exact ⟨rfl, hS.li⟩) | (rw [if_pos (by omega), if_neg (by omega)]; exact ⟨rfl, hS.li⟩) | (rw [if_neg (by omega)]; exact ⟨rfl, rfl⟩)⟩
    · skip
      refine k_iload_n dX11_limit_14 rfl ?_
      refine k_callSi [.int (iI _)] dX11_limit_15 s_X11_limit_150 rfl (m_isZeroOrOne (by assumption)) rfl (Nat.le_of_ble_eq_true rfl) ?_
      rintro _ _ ⟨rfl, rfl⟩
      refine k_ifb_ne 28 dX11_limit_18 (by decide) (fun h18 => ?_) (fun h18 => ?_)
      · skip
        refine k_aload_n dX11_limit_28 rfl ?_
        refine k_getR dX11_limit_29 f_X11_35 (Nat.le_of_ble_eq_true rfl) sh_o0 (fun _ => rfl) ?_
        refine k_aload_n dX11_limit_32 rfl ?_
        refine k_getR dX11_limit_33 f_X11_10 (Nat.le_of_ble_eq_true rfl) sh_o0 (fun _ => rfl) ?_
        refine k_iload_n dX11_limit_36 rfl ?_
        refine k_callVv [.ref _, .int (iI _)] dX11_limit_37 s_X11_limit_131 rfl (m_seeL lm55 rd1 (by omega) hV hI ⟨by omega, by omega⟩) rfl (Nat.le_of_ble_eq_true rfl) (Lm.o lm55) ⟨_, rfl, rfl⟩ (Nat.le_of_ble_eq_true rfl) ?_
        rintro G2 hS
        have f2 : G2 1 2 = G 1 2 := hS.1 1 2 (by omega) (by omega)
        have f0 : G2 1 0 = G 1 0 := hS.1 1 0 (by omega) (by omega)
        refine k_iload_n dX11_limit_40 rfl ?_
        refine k_if_ne 64 dX11_limit_41 (by decide) ⟨by omega, by omega⟩ (fun h41 => ?_) (fun h41 => ?_)
        · skip
          refine k_aload_n dX11_limit_64 rfl ?_
          refine k_getR dX11_limit_65 f_X11_35 (Nat.le_of_ble_eq_true rfl) sh_o0 (fun _ => rfl) ?_
          refine k_aload_n dX11_limit_68 rfl ?_
          refine k_getR dX11_limit_69 f_X11_10 (Nat.le_of_ble_eq_true rfl) sh_o0 (fun _ => rfl) ?_
          refine k_iload_n dX11_limit_72 rfl ?_
          refine k_callVi [.ref _, .int (iI _)] dX11_limit_73 s_X11_limit_160 rfl (m_nearestChild lm55 rd1 hS.2.2 (by rw [f0]; exact h0) ⟨by omega, by omega⟩ (by rw [f2]; exact h2)) rfl (Nat.le_of_ble_eq_true rfl) (Lm.o lm55) ⟨_, rfl, rfl⟩ (Nat.le_of_ble_eq_true rfl) ?_
          rintro _ _ ⟨rfl, rfl⟩
          rw [f0, f2, q_nb_c (P' := vP (rv G 1) t) (H' := vH (rv G 1) t) (G 1 2).toNat (fun j hj => hS.2.1 j hj)]
          exact k_iret dX11_limit_76 rfl ⟨_, rfl, by (try dsimp only); first | (exfalso; omega) | (rw [if_pos (by omega), if_pos (by omega)]; exact ⟨rfl, hS.li⟩) | (rw [if_pos (by omega), if_neg (by omega)]; exact ⟨rfl, hS.li⟩) | (rw [if_neg (by omega)]; exact ⟨rfl, rfl⟩)⟩
        · skip
          refine k_aload_n dX11_limit_44 rfl ?_
          refine k_getR dX11_limit_45 f_X11_35 (Nat.le_of_ble_eq_true rfl) sh_o0 (fun _ => rfl) ?_
          refine k_aload_n dX11_limit_48 rfl ?_
          refine k_getR dX11_limit_49 f_X11_10 (Nat.le_of_ble_eq_true rfl) sh_o0 (fun _ => rfl) ?_
          refine k_aload_n dX11_limit_52 rfl ?_
          refine k_getR dX11_limit_53 f_X11_10 (Nat.le_of_ble_eq_true rfl) sh_o0 (fun _ => rfl) ?_
          refine k_callVi [] dX11_limit_56 s_X11_limit_153 rfl (m_allL rd1 (by omega) hV hS.li) rfl (Nat.le_of_ble_eq_true rfl) (Rd.o rd1) ⟨_, rfl, rfl⟩ (Nat.le_of_ble_eq_true rfl) ?_
          rintro _ _ ⟨rfl, rfl⟩
          refine k_iload_n dX11_limit_59 rfl ?_
          refine k_callVi [.ref _, .int (iI _), .int (iI _)] dX11_limit_60 s_X11_limit_156 rfl (m_limL lm55 rd1 (by omega) hV hS (vAll_lt hV) ⟨by omega, by omega⟩) rfl (Nat.le_of_ble_eq_true rfl) (Lm.o lm55) ⟨_, rfl, rfl⟩ (Nat.le_of_ble_eq_true rfl) ?_
          rintro _ _ ⟨rfl, rfl⟩
          exact k_iret dX11_limit_63 rfl ⟨_, rfl, by (try dsimp only); first | (exfalso; omega) | (rw [if_pos (by omega), if_pos (by omega)]; exact ⟨rfl, hS.li⟩) | (rw [if_pos (by omega), if_neg (by omega)]; exact ⟨rfl, hS.li⟩) | (rw [if_neg (by omega)]; exact ⟨rfl, rfl⟩)⟩
      · skip
        refine k_aload_n dX11_limit_21 rfl ?_
        refine k_bipush dX11_limit_22 (by decide) ?_
        refine k_callVi [.int (iI _)] dX11_limit_24 s_X11_limit_61 rfl m_refuseBad rfl (Nat.le_of_ble_eq_true rfl) sh_o0 ⟨_, rfl, rfl⟩ (Nat.le_of_ble_eq_true rfl) ?_
        rintro _ _ ⟨rfl, rfl⟩
        exact k_iret dX11_limit_27 rfl ⟨_, rfl, by (try dsimp only); first | (exfalso; omega) | (rw [if_pos (by omega), if_pos (by omega)]; exact ⟨rfl, hS.li⟩) | (rw [if_pos (by omega), if_neg (by omega)]; exact ⟨rfl, hS.li⟩) | (rw [if_neg (by omega)]; exact ⟨rfl, rfl⟩)⟩
