theorem m_pToBed {G : Mem} (hV : Vok (rv G 1)) (hq : q_ok (G (65 + 7)) (G (65 + 8))) {a h w : Int} (ha : R32 a) (hh : R32 h) (hw : R32 w) : MP M_X11_toBed [.ref 0, .int (iI a), .int (iI h), .int (iI w)] G (vi fun v g => if (0 ≤ a ∧ a ≤ 59) ∧ (0 ≤ h ∧ h ≤ 6) ∧ (0 ≤ w ∧ w ≤ 1) then ((if w = 0 then (((vBed (rv G 1) a h (vAll (rv G 1))).1 : Nat) : Int) else vSoonest (rv G 1) (vAll (rv G 1) &&& (63 ^^^ (vBed (rv G 1) a h (vAll (rv G 1))).1)) a) = v ∧ LI 65 G g) else (-2 = v ∧ rB G = g)) := by
  have hI : LI 65 G G := LI.rf hq
  have h2 : 0 ≤ G 1 2 ∧ G 1 2 ≤ 6 := hV.2.2.1
  have va := vAll_lt hV
  refine MP.of [some (.ref 0), some (.int (iI a)), some (.int (iI h)), some (.int (iI w)), none] (plainFor_of_name pn_X11) (Nat.le_of_ble_eq_true rfl) rfl ?_
  refine k_iload_n dX11_toBed_0 rfl ?_
  refine k_callSi [.int (iI _)] dX11_toBed_1 s_X11_toBed_128 rfl (m_isMinute (by assumption)) rfl (Nat.le_of_ble_eq_true rfl) ?_
  rintro _ _ ⟨rfl, rfl⟩
  refine k_ifb_eq 24 dX11_toBed_4 (by decide) (fun h4 => ?_) (fun h4 => ?_)
  · skip
    refine k_aload_n dX11_toBed_24 rfl ?_
    refine k_bipush dX11_toBed_25 (by decide) ?_
    refine k_callVi [.int (iI _)] dX11_toBed_27 s_X11_toBed_61 rfl m_refuseBad rfl (Nat.le_of_ble_eq_true rfl) sh_o0 ⟨_, rfl, rfl⟩ (Nat.le_of_ble_eq_true rfl) ?_
    rintro _ _ ⟨rfl, rfl⟩
    exact k_iret dX11_toBed_30 rfl ⟨_, rfl, by (try dsimp only); first | (exfalso; omega) | (rw [if_pos (by omega), if_pos (by omega)]; exact ⟨rfl, hI2⟩) | (rw [if_pos (by omega), if_neg (by omega)]; exact ⟨rfl, hI3⟩) | (rw [if_neg (by omega)]; exact ⟨rfl, rfl⟩)⟩
  · skip
    refine k_iload_n dX11_toBed_7 rfl ?_
    refine k_iconst dX11_toBed_8 ?_
    refine k_bipush dX11_toBed_9 (by decide) ?_
    refine k_callSi [.int (iI _), .int (iI _), .int (iI _)] dX11_toBed_11 s_X11_toBed_57 rfl (m_within (by first | assumption | exact ⟨by omega, by omega⟩) ⟨by omega, by omega⟩ ⟨by omega, by omega⟩) rfl (Nat.le_of_ble_eq_true rfl) ?_
    rintro _ _ ⟨rfl, rfl⟩
    refine k_ifb_eq 24 dX11_toBed_14 (by decide) (fun h14 => ?_) (fun h14 => ?_)
    · skip
      refine k_aload_n dX11_toBed_24 rfl ?_
      refine k_bipush dX11_toBed_25 (by decide) ?_
      refine k_callVi [.int (iI _)] dX11_toBed_27 s_X11_toBed_61 rfl m_refuseBad rfl (Nat.le_of_ble_eq_true rfl) sh_o0 ⟨_, rfl, rfl⟩ (Nat.le_of_ble_eq_true rfl) ?_
      rintro _ _ ⟨rfl, rfl⟩
      exact k_iret dX11_toBed_30 rfl ⟨_, rfl, by (try dsimp only); first | (exfalso; omega) | (rw [if_pos (by omega), if_pos (by omega)]; exact ⟨rfl, hI2⟩) | (rw [if_pos (by omega), if_neg (by omega)]; exact ⟨rfl, hI3⟩) | (rw [if_neg (by omega)]; exact ⟨rfl, rfl⟩)⟩
    · skip
      refine k_iload_n dX11_toBed_17 rfl ?_
      refine k_callSi [.int (iI _)] dX11_toBed_18 s_X11_toBed_150 rfl (m_isZeroOrOne (by assumption)) rfl (Nat.le_of_ble_eq_true rfl) ?_
      rintro _ _ ⟨rfl, rfl⟩
      refine k_ifb_ne 31 dX11_toBed_21 (by decide) (fun h21 => ?_) (fun h21 => ?_)
      · skip
        refine k_aload_n dX11_toBed_31 rfl ?_
        refine k_getR dX11_toBed_32 f_X11_42 (Nat.le_of_ble_eq_true rfl) sh_o0 (fun _ => rfl) ?_
        refine k_aload_n dX11_toBed_35 rfl ?_
        refine k_getR dX11_toBed_36 f_X11_10 (Nat.le_of_ble_eq_true rfl) sh_o0 (fun _ => rfl) ?_
        refine k_iload_n dX11_toBed_39 rfl ?_
        refine k_iload_n dX11_toBed_40 rfl ?_
        refine k_callVi [.ref _, .int (iI _), .int (iI _)] dX11_toBed_41 s_X11_toBed_188 rfl (m_bestToBed rd1 (by omega) hV hI ⟨by omega, by omega⟩ (by omega)) rfl (Nat.le_of_ble_eq_true rfl) sh_o64 ⟨_, rfl, rfl⟩ (Nat.le_of_ble_eq_true rfl) ?_
        rintro _ G2 ⟨rfl, hI2⟩
        have vb := (vBed_b (V := rv G 1) (a := a) (h := h) ⟨by omega, by omega⟩ (vAll (rv G 1))).1
        refine k_istore (L' := [_, _, _, _, _]) dX11_toBed_44 (Nat.le_of_ble_eq_true rfl) rfl ?_
        refine k_iload_n dX11_toBed_46 rfl ?_
        refine k_if_ne 55 dX11_toBed_47 (by decide) ⟨by omega, by omega⟩ (fun h47 => ?_) (fun h47 => ?_)
        · skip
          refine k_aload_n dX11_toBed_55 rfl ?_
          refine k_getR dX11_toBed_56 f_X11_42 (Nat.le_of_ble_eq_true rfl) sh_o0 (fun _ => rfl) ?_
          refine k_aload_n dX11_toBed_59 rfl ?_
          refine k_getR dX11_toBed_60 f_X11_10 (Nat.le_of_ble_eq_true rfl) sh_o0 (fun _ => rfl) ?_
          refine k_aload_n dX11_toBed_63 rfl ?_
          refine k_getR dX11_toBed_64 f_X11_10 (Nat.le_of_ble_eq_true rfl) sh_o0 (fun _ => rfl) ?_
          refine k_callVi [] dX11_toBed_67 s_X11_toBed_153 rfl (m_allL rd1 (by omega) hV hI2) rfl (Nat.le_of_ble_eq_true rfl) (Rd.o rd1) ⟨_, rfl, rfl⟩ (Nat.le_of_ble_eq_true rfl) ?_
          rintro _ _ ⟨rfl, rfl⟩
          refine k_iload dX11_toBed_70 rfl ?_
          refine k_iconst dX11_toBed_72 ?_
          refine k_not (vBed (rv G 1) a h (vAll (rv G 1))).1 dX11_toBed_73 rfl (by omega) ?_
          refine k_iandn (vAll (rv G 1)) (vBed (rv G 1) a h (vAll (rv G 1))).1 dX11_toBed_74 rfl rfl (by omega) (by omega) ?_
          refine k_iload_n dX11_toBed_75 rfl ?_
          refine k_callVi [.ref _, .int (iI _), .int (iI _)] dX11_toBed_76 s_X11_toBed_173 rfl (m_soonestEnd rd1 (by omega) hV hI2 (Nat.lt_of_le_of_lt Nat.and_le_left va) ⟨by omega, by omega⟩) rfl (Nat.le_of_ble_eq_true rfl) sh_o64 ⟨_, rfl, rfl⟩ (Nat.le_of_ble_eq_true rfl) ?_
          rintro _ G3 ⟨rfl, hI3⟩
          exact k_iret dX11_toBed_79 rfl ⟨_, rfl, by (try dsimp only); first | (exfalso; omega) | (rw [if_pos (by omega), if_pos (by omega)]; exact ⟨rfl, hI2⟩) | (rw [if_pos (by omega), if_neg (by omega)]; exact ⟨rfl, hI3⟩) | (rw [if_neg (by omega)]; exact ⟨rfl, rfl⟩)⟩
        · skip
          refine k_iload dX11_toBed_50 rfl ?_
          refine k_goto 79 dX11_toBed_52 (by decide) ?_
          exact k_iret dX11_toBed_79 rfl ⟨_, rfl, by (try dsimp only); first | (exfalso; omega) | (rw [if_pos (by omega), if_pos (by omega)]; exact ⟨rfl, hI2⟩) | (rw [if_pos (by omega), if_neg (by omega)]; exact ⟨rfl, hI3⟩) | (rw [if_neg (by omega)]; exact ⟨rfl, rfl⟩)⟩
      · skip
        refine k_aload_n dX11_toBed_24 rfl ?_
        refine k_bipush dX11_toBed_25 (by decide) ?_
        refine k_callVi [.int (iI _)] dX11_toBed_27 s_X11_toBed_61 rfl m_refuseBad rfl (Nat.le_of_ble_eq_true rfl) sh_o0 ⟨_, rfl, rfl⟩ (Nat.le_of_ble_eq_true rfl) ?_
        rintro _ _ ⟨rfl, rfl⟩
        exact k_iret dX11_toBed_30 rfl ⟨_, rfl, by (try dsimp only); first | (exfalso; omega) | (rw [if_pos (by omega), if_pos (by omega)]; exact ⟨rfl, hI2⟩) | (rw [if_pos (by omega), if_neg (by omega)]; exact ⟨rfl, hI3⟩) | (rw [if_neg (by omega)]; exact ⟨rfl, rfl⟩)⟩
theorem m_pOf {G : Mem} (hV : Vok (rv G 1)) (hq : q_ok (G (55 + 7)) (G (55 + 8))) {c t w : Int} (hc : R32 c) (ht : R32 t) (hw : R32 w) : MP M_X11_of [.ref 0, .int (iI c), .int (iI t), .int (iI w)] G (vi fun v g => if (0 ≤ c ∧ c ≤ G 1 2 - 1) ∧ (0 ≤ t ∧ t ≤ 59) then (if 0 ≤ w ∧ w ≤ 5 then ((if w = 0 then G (1 + 1) c.toNat else if w = 1 then G (1 + 2) c.toNat else if w = 2 then vP (rv G 1) t c.toNat else if w = 3 then vH (rv G 1) t c.toNat else if w = 4 then G (1 + 4) c.toNat else G (1 + 5) c.toNat) = v ∧ LI 55 G g) else (-2 = v ∧ ∃ g0, LI 55 G g0 ∧ rB g0 = g)) else (-2 = v ∧ rB G = g)) := by
  have hI : LI 55 G G := LI.rf hq
  have h2 : 0 ≤ G 1 2 ∧ G 1 2 ≤ 6 := hV.2.2.1
  refine MP.of [some (.ref 0), some (.int (iI c)), some (.int (iI t)), some (.int (iI w))] (plainFor_of_name pn_X11) (Nat.le_of_ble_eq_true rfl) rfl ?_
  refine k_aload_n dX11_of_0 rfl ?_
  refine k_iload_n dX11_of_1 rfl ?_
  refine k_callVi [.int (iI _)] dX11_of_2 s_X11_of_90 rfl (m_isChild h2 (by assumption)) rfl (Nat.le_of_ble_eq_true rfl) sh_o0 ⟨_, rfl, rfl⟩ (Nat.le_of_ble_eq_true rfl) ?_
  rintro _ _ ⟨rfl, rfl⟩
  refine k_ifb_eq 15 dX11_of_5 (by decide) (fun h5 => ?_) (fun h5 => ?_)
  · skip
    refine k_aload_n dX11_of_15 rfl ?_
    refine k_bipush dX11_of_16 (by decide) ?_
    refine k_callVi [.int (iI _)] dX11_of_18 s_X11_of_61 rfl m_refuseBad rfl (Nat.le_of_ble_eq_true rfl) sh_o0 ⟨_, rfl, rfl⟩ (Nat.le_of_ble_eq_true rfl) ?_
    rintro _ _ ⟨rfl, rfl⟩
    exact k_iret dX11_of_21 rfl ⟨_, rfl, by (try dsimp only); first | (rw [if_neg (by omega)]; exact ⟨rfl, rfl⟩) | (rw [if_pos (by omega), if_neg (by omega)]; exact ⟨rfl, _, hS.li, rfl⟩) | (rw [if_pos (by omega), if_pos (by omega), hts]; refine ⟨?_, hS.li⟩; first | exact (hS.1 (1 + 1) _ (by omega) (by omega)).symm | exact (hS.1 (1 + 2) _ (by omega) (by omega)).symm | exact (hS.2.1 _ (by omega)).1.symm | exact (hS.2.1 _ (by omega)).2.symm | exact (hS.1 (1 + 4) _ (by omega) (by omega)).symm | exact (hS.1 (1 + 5) _ (by omega) (by omega)).symm)⟩
  · skip
    refine k_iload_n dX11_of_8 rfl ?_
    refine k_callSi [.int (iI _)] dX11_of_9 s_X11_of_128 rfl (m_isMinute (by assumption)) rfl (Nat.le_of_ble_eq_true rfl) ?_
    rintro _ _ ⟨rfl, rfl⟩
    refine k_ifb_ne 22 dX11_of_12 (by decide) (fun h12 => ?_) (fun h12 => ?_)
    · skip
      refine k_aload_n dX11_of_22 rfl ?_
      refine k_getR dX11_of_23 f_X11_35 (Nat.le_of_ble_eq_true rfl) sh_o0 (fun _ => rfl) ?_
      refine k_aload_n dX11_of_26 rfl ?_
      refine k_getR dX11_of_27 f_X11_10 (Nat.le_of_ble_eq_true rfl) sh_o0 (fun _ => rfl) ?_
      refine k_iload_n dX11_of_30 rfl ?_
      refine k_callVv [.ref _, .int (iI _)] dX11_of_31 s_X11_of_131 rfl (m_seeL lm55 rd1 (by omega) hV hI ⟨by omega, by omega⟩) rfl (Nat.le_of_ble_eq_true rfl) (Lm.o lm55) ⟨_, rfl, rfl⟩ (Nat.le_of_ble_eq_true rfl) ?_
      rintro G2 hS
      refine k_iload_n dX11_of_34 rfl ?_
      rcases (show w = 0 ∨ w = 1 ∨ w = 2 ∨ w = 3 ∨ w = 4 ∨ w = 5 ∨ (w < 0 ∨ 5 < w) from by omega) with hts | hts | hts | hts | hts | hts | hts
      · skip
        refine k_tsIn 72 dX11_of_35 0 hts ⟨by decide, by decide⟩ ⟨by decide, by decide⟩ (off := 37) rfl (by decide) ?_
        refine k_aload_n dX11_of_72 rfl ?_
        refine k_getR dX11_of_73 f_X11_10 (Nat.le_of_ble_eq_true rfl) sh_o0 (fun _ => rfl) ?_
        refine k_getR dX11_of_76 f_X11_135 (Nat.le_of_ble_eq_true rfl) (Rd.o rd1) (fun _ => rfl) ?_
        refine k_iload_n dX11_of_79 rfl ?_
        refine k_iald c.toNat dX11_of_80 (Rd.l1 rd1) (Rd.a1 rd1) (by decide) (by omega) (by omega) ?_
        exact k_iret dX11_of_81 rfl ⟨_, rfl, by (try dsimp only); first | (rw [if_neg (by omega)]; exact ⟨rfl, rfl⟩) | (rw [if_pos (by omega), if_neg (by omega)]; exact ⟨rfl, _, hS.li, rfl⟩) | (rw [if_pos (by omega), if_pos (by omega), hts]; refine ⟨?_, hS.li⟩; first | exact (hS.1 (1 + 1) _ (by omega) (by omega)).symm | exact (hS.1 (1 + 2) _ (by omega) (by omega)).symm | exact (hS.2.1 _ (by omega)).1.symm | exact (hS.2.1 _ (by omega)).2.symm | exact (hS.1 (1 + 4) _ (by omega) (by omega)).symm | exact (hS.1 (1 + 5) _ (by omega) (by omega)).symm)⟩
      · skip
        refine k_tsIn 82 dX11_of_35 1 hts ⟨by decide, by decide⟩ ⟨by decide, by decide⟩ (off := 47) rfl (by decide) ?_
        refine k_aload_n dX11_of_82 rfl ?_
        refine k_getR dX11_of_83 f_X11_10 (Nat.le_of_ble_eq_true rfl) sh_o0 (fun _ => rfl) ?_
        refine k_getR dX11_of_86 f_X11_138 (Nat.le_of_ble_eq_true rfl) (Rd.o rd1) (fun _ => rfl) ?_
        refine k_iload_n dX11_of_89 rfl ?_
        refine k_iald c.toNat dX11_of_90 (Rd.l2 rd1) (Rd.a2 rd1) (by decide) (by omega) (by omega) ?_
        exact k_iret dX11_of_91 rfl ⟨_, rfl, by (try dsimp only); first | (rw [if_neg (by omega)]; exact ⟨rfl, rfl⟩) | (rw [if_pos (by omega), if_neg (by omega)]; exact ⟨rfl, _, hS.li, rfl⟩) | (rw [if_pos (by omega), if_pos (by omega), hts]; refine ⟨?_, hS.li⟩; first | exact (hS.1 (1 + 1) _ (by omega) (by omega)).symm | exact (hS.1 (1 + 2) _ (by omega) (by omega)).symm | exact (hS.2.1 _ (by omega)).1.symm | exact (hS.2.1 _ (by omega)).2.symm | exact (hS.1 (1 + 4) _ (by omega) (by omega)).symm | exact (hS.1 (1 + 5) _ (by omega) (by omega)).symm)⟩
      · skip
        refine k_tsIn 92 dX11_of_35 2 hts ⟨by decide, by decide⟩ ⟨by decide, by decide⟩ (off := 57) rfl (by decide) ?_
        refine k_aload_n dX11_of_92 rfl ?_
        refine k_getR dX11_of_93 f_X11_35 (Nat.le_of_ble_eq_true rfl) sh_o0 (fun _ => rfl) ?_
        refine k_getR dX11_of_96 f_X11_141 (Nat.le_of_ble_eq_true rfl) (Lm.o lm55) (fun _ => rfl) ?_
        refine k_iload_n dX11_of_99 rfl ?_
        refine k_iald c.toNat dX11_of_100 (Lm.l7 lm55) (Lm.a7 lm55) (by decide) (by omega) (by omega) ?_
        exact k_iret dX11_of_101 rfl ⟨_, rfl, by (try dsimp only); first | (rw [if_neg (by omega)]; exact ⟨rfl, rfl⟩) | (rw [if_pos (by omega), if_neg (by omega)]; exact ⟨rfl, _, hS.li, rfl⟩) | (rw [if_pos (by omega), if_pos (by omega), hts]; refine ⟨?_, hS.li⟩; first | exact (hS.1 (1 + 1) _ (by omega) (by omega)).symm | exact (hS.1 (1 + 2) _ (by omega) (by omega)).symm | exact (hS.2.1 _ (by omega)).1.symm | exact (hS.2.1 _ (by omega)).2.symm | exact (hS.1 (1 + 4) _ (by omega) (by omega)).symm | exact (hS.1 (1 + 5) _ (by omega) (by omega)).symm)⟩
      · skip
        refine k_tsIn 102 dX11_of_35 3 hts ⟨by decide, by decide⟩ ⟨by decide, by decide⟩ (off := 67) rfl (by decide) ?_
        refine k_aload_n dX11_of_102 rfl ?_
        refine k_getR dX11_of_103 f_X11_35 (Nat.le_of_ble_eq_true rfl) sh_o0 (fun _ => rfl) ?_
        refine k_getR dX11_of_106 f_X11_144 (Nat.le_of_ble_eq_true rfl) (Lm.o lm55) (fun _ => rfl) ?_
        refine k_iload_n dX11_of_109 rfl ?_
        refine k_iald c.toNat dX11_of_110 (Lm.l8 lm55) (Lm.a8 lm55) (by decide) (by omega) (by omega) ?_
        exact k_iret dX11_of_111 rfl ⟨_, rfl, by (try dsimp only); first | (rw [if_neg (by omega)]; exact ⟨rfl, rfl⟩) | (rw [if_pos (by omega), if_neg (by omega)]; exact ⟨rfl, _, hS.li, rfl⟩) | (rw [if_pos (by omega), if_pos (by omega), hts]; refine ⟨?_, hS.li⟩; first | exact (hS.1 (1 + 1) _ (by omega) (by omega)).symm | exact (hS.1 (1 + 2) _ (by omega) (by omega)).symm | exact (hS.2.1 _ (by omega)).1.symm | exact (hS.2.1 _ (by omega)).2.symm | exact (hS.1 (1 + 4) _ (by omega) (by omega)).symm | exact (hS.1 (1 + 5) _ (by omega) (by omega)).symm)⟩
      · skip
        refine k_tsIn 112 dX11_of_35 4 hts ⟨by decide, by decide⟩ ⟨by decide, by decide⟩ (off := 77) rfl (by decide) ?_
        refine k_aload_n dX11_of_112 rfl ?_
        refine k_getR dX11_of_113 f_X11_10 (Nat.le_of_ble_eq_true rfl) sh_o0 (fun _ => rfl) ?_
        refine k_getR dX11_of_116 f_X11_147 (Nat.le_of_ble_eq_true rfl) (Rd.o rd1) (fun _ => rfl) ?_
        refine k_iload_n dX11_of_119 rfl ?_
        refine k_iald c.toNat dX11_of_120 (Rd.l4 rd1) (Rd.a4 rd1) (by decide) (by omega) (by omega) ?_
        exact k_iret dX11_of_121 rfl ⟨_, rfl, by (try dsimp only); first | (rw [if_neg (by omega)]; exact ⟨rfl, rfl⟩) | (rw [if_pos (by omega), if_neg (by omega)]; exact ⟨rfl, _, hS.li, rfl⟩) | (rw [if_pos (by omega), if_pos (by omega), hts]; refine ⟨?_, hS.li⟩; first | exact (hS.1 (1 + 1) _ (by omega) (by omega)).symm | exact (hS.1 (1 + 2) _ (by omega) (by omega)).symm | exact (hS.2.1 _ (by omega)).1.symm | exact (hS.2.1 _ (by omega)).2.symm | exact (hS.1 (1 + 4) _ (by omega) (by omega)).symm | exact (hS.1 (1 + 5) _ (by omega) (by omega)).symm)⟩
      · skip
        refine k_tsIn 122 dX11_of_35 5 hts ⟨by decide, by decide⟩ ⟨by decide, by decide⟩ (off := 87) rfl (by decide) ?_
        refine k_aload_n dX11_of_122 rfl ?_
        refine k_getR dX11_of_123 f_X11_10 (Nat.le_of_ble_eq_true rfl) sh_o0 (fun _ => rfl) ?_
        refine k_getR dX11_of_126 f_X11_101 (Nat.le_of_ble_eq_true rfl) (Rd.o rd1) (fun _ => rfl) ?_
        refine k_iload_n dX11_of_129 rfl ?_
        refine k_iald c.toNat dX11_of_130 (Rd.l5 rd1) (Rd.a5 rd1) (by decide) (by omega) (by omega) ?_
        exact k_iret dX11_of_131 rfl ⟨_, rfl, by (try dsimp only); first | (rw [if_neg (by omega)]; exact ⟨rfl, rfl⟩) | (rw [if_pos (by omega), if_neg (by omega)]; exact ⟨rfl, _, hS.li, rfl⟩) | (rw [if_pos (by omega), if_pos (by omega), hts]; refine ⟨?_, hS.li⟩; first | exact (hS.1 (1 + 1) _ (by omega) (by omega)).symm | exact (hS.1 (1 + 2) _ (by omega) (by omega)).symm | exact (hS.2.1 _ (by omega)).1.symm | exact (hS.2.1 _ (by omega)).2.symm | exact (hS.1 (1 + 4) _ (by omega) (by omega)).symm | exact (hS.1 (1 + 5) _ (by omega) (by omega)).symm)⟩
      · skip
        refine k_tsOut 132 dX11_of_35 ⟨by omega, by omega⟩ hts (by decide) ?_
        refine k_aload_n dX11_of_132 rfl ?_
        refine k_bipush dX11_of_133 (by decide) ?_
        refine k_callVi [.int (iI _)] dX11_of_135 s_X11_of_61 rfl m_refuseBad rfl (Nat.le_of_ble_eq_true rfl) sh_o0 ⟨_, rfl, rfl⟩ (Nat.le_of_ble_eq_true rfl) ?_
        rintro _ _ ⟨rfl, rfl⟩
        exact k_iret dX11_of_138 rfl ⟨_, rfl, by (try dsimp only); first | (rw [if_neg (by omega)]; exact ⟨rfl, rfl⟩) | (rw [if_pos (by omega), if_neg (by omega)]; exact ⟨rfl, _, hS.li, rfl⟩) | (rw [if_pos (by omega), if_pos (by omega), hts]; refine ⟨?_, hS.li⟩; first | exact (hS.1 (1 + 1) _ (by omega) (by omega)).symm | exact (hS.1 (1 + 2) _ (by omega) (by omega)).symm | exact (hS.2.1 _ (by omega)).1.symm | exact (hS.2.1 _ (by omega)).2.symm | exact (hS.1 (1 + 4) _ (by omega) (by omega)).symm | exact (hS.1 (1 + 5) _ (by omega) (by omega)).symm)⟩
    · skip
      refine k_aload_n dX11_of_15 rfl ?_
      refine k_bipush dX11_of_16 (by decide) ?_
      refine k_callVi [.int (iI _)] dX11_of_18 s_X11_of_61 rfl m_refuseBad rfl (Nat.le_of_ble_eq_true rfl) sh_o0 ⟨_, rfl, rfl⟩ (Nat.le_of_ble_eq_true rfl) ?_
      rintro _ _ ⟨rfl, rfl⟩
      exact k_iret dX11_of_21 rfl ⟨_, rfl, by (try dsimp only); first | (rw [if_neg (by omega)]; exact ⟨rfl, rfl⟩) | (rw [if_pos (by omega), if_neg (by omega)]; exact ⟨rfl, _, hS.li, rfl⟩) | (rw [if_pos (by omega), if_pos (by omega), hts]; refine ⟨?_, hS.li⟩; first | exact (hS.1 (1 + 1) _ (by omega) (by omega)).symm | exact (hS.1 (1 + 2) _ (by omega) (by omega)).symm | exact (hS.2.1 _ (by omega)).1.symm | exact (hS.2.1 _ (by omega)).2.symm | exact (hS.1 (1 + 4) _ (by omega) (by omega)).symm | exact (hS.1 (1 + 5) _ (by omega) (by omega)).symm)⟩
