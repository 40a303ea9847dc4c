/-! ===== SmallestSpeed: helpers ===== -/
def rB (G : Mem) : Mem := ug G 0 12 (G 0 12 + 1)
def rN (G : Mem) : Mem := ug G 0 13 (G 0 13 + 1)
def rF (G : Mem) : Mem := ug G 0 14 (G 0 14 + 1)
theorem m_within {G : Mem} {n a b : Int} (hn : R32 n) (ha : R32 a) (hb : R32 b) : MP M_X11_within [.int (iI n), .int (iI a), .int (iI b)] G (vx (bI (a ≤ n ∧ n ≤ b)) G) := by
  refine MP.of [some (.int (iI n)), some (.int (iI a)), some (.int (iI b))] (plainFor_of_name pn_X11) (Nat.le_of_ble_eq_true rfl) rfl ?_
  refine k_iload_n dX11_within_0 rfl ?_
  refine k_iload_n dX11_within_1 rfl ?_
  refine k_icmp_lt 14 dX11_within_2 (by decide) hn ha (fun h2 => ?_) (fun h2 => ?_)
  · skip
    refine k_iconst dX11_within_14 ?_
    exact k_zret dX11_within_15 rfl (Or.inl rfl) ⟨_, rfl, by unfold bI; first | exact if_pos ⟨by omega, by omega⟩ | exact if_neg (fun q => by omega), rfl⟩
  · skip
    refine k_iload_n dX11_within_5 rfl ?_
    refine k_iload_n dX11_within_6 rfl ?_
    refine k_icmp_gt 14 dX11_within_7 (by decide) hn hb (fun h7 => ?_) (fun h7 => ?_)
    · skip
      refine k_iconst dX11_within_14 ?_
      exact k_zret dX11_within_15 rfl (Or.inl rfl) ⟨_, rfl, by unfold bI; first | exact if_pos ⟨by omega, by omega⟩ | exact if_neg (fun q => by omega), rfl⟩
    · skip
      refine k_iconst dX11_within_10 ?_
      refine k_goto 15 dX11_within_11 (by decide) ?_
      exact k_zret dX11_within_15 rfl (Or.inr rfl) ⟨_, rfl, by unfold bI; first | exact if_pos ⟨by omega, by omega⟩ | exact if_neg (fun q => by omega), rfl⟩
theorem m_isCell {G : Mem} {n : Int} (hn : R32 n) : MP M_X11_isCell [.int (iI n)] G (vx (bI (0 ≤ n ∧ n ≤ 47)) G) := by
  refine MP.of [some (.int (iI n))] (plainFor_of_name pn_X11) (Nat.le_of_ble_eq_true rfl) rfl ?_
  refine k_iload_n dX11_isCell_0 rfl ?_
  refine k_iconst dX11_isCell_1 ?_
  refine k_bipush dX11_isCell_2 (by decide) ?_
  refine k_callSi [.int (iI _), .int (iI _), .int (iI _)] dX11_isCell_4 s_X11_isCell_57 rfl (m_within (by first | assumption | exact ⟨by omega, by omega⟩) ⟨by omega, by omega⟩ ⟨by omega, by omega⟩) rfl (Nat.le_of_ble_eq_true rfl) ?_
  rintro _ _ ⟨rfl, rfl⟩
  exact k_zret dX11_isCell_7 rfl (by unfold bI; split <;> omega) ⟨_, rfl, by omega, rfl⟩
theorem m_isMinute {G : Mem} {n : Int} (hn : R32 n) : MP M_X11_isMinute [.int (iI n)] G (vx (bI (0 ≤ n ∧ n ≤ 59)) G) := by
  refine MP.of [some (.int (iI n))] (plainFor_of_name pn_X11) (Nat.le_of_ble_eq_true rfl) rfl ?_
  refine k_iload_n dX11_isMinute_0 rfl ?_
  refine k_iconst dX11_isMinute_1 ?_
  refine k_bipush dX11_isMinute_2 (by decide) ?_
  refine k_callSi [.int (iI _), .int (iI _), .int (iI _)] dX11_isMinute_4 s_X11_isMinute_57 rfl (m_within (by first | assumption | exact ⟨by omega, by omega⟩) ⟨by omega, by omega⟩ ⟨by omega, by omega⟩) rfl (Nat.le_of_ble_eq_true rfl) ?_
  rintro _ _ ⟨rfl, rfl⟩
  exact k_zret dX11_isMinute_7 rfl (by unfold bI; split <;> omega) ⟨_, rfl, by omega, rfl⟩
theorem m_isZeroOrOne {G : Mem} {n : Int} (hn : R32 n) : MP M_X11_isZeroOrOne [.int (iI n)] G (vx (bI (0 ≤ n ∧ n ≤ 1)) G) := by
  refine MP.of [some (.int (iI n))] (plainFor_of_name pn_X11) (Nat.le_of_ble_eq_true rfl) rfl ?_
  refine k_iload_n dX11_isZeroOrOne_0 rfl ?_
  refine k_iconst dX11_isZeroOrOne_1 ?_
  refine k_iconst dX11_isZeroOrOne_2 ?_
  refine k_callSi [.int (iI _), .int (iI _), .int (iI _)] dX11_isZeroOrOne_3 s_X11_isZeroOrOne_57 rfl (m_within (by first | assumption | exact ⟨by omega, by omega⟩) ⟨by omega, by omega⟩ ⟨by omega, by omega⟩) rfl (Nat.le_of_ble_eq_true rfl) ?_
  rintro _ _ ⟨rfl, rfl⟩
  exact k_zret dX11_isZeroOrOne_6 rfl (by unfold bI; split <;> omega) ⟨_, rfl, by omega, rfl⟩
theorem m_isChild {G : Mem} (h2 : 0 ≤ G 1 2 ∧ G 1 2 ≤ 6) {n : Int} (hn : R32 n) : MP M_X11_isChild [.ref 0, .int (iI n)] G (vx (bI (0 ≤ n ∧ n ≤ G 1 2 - 1)) G) := by
  refine MP.of [some (.ref 0), some (.int (iI n))] (plainFor_of_name pn_X11) (Nat.le_of_ble_eq_true rfl) rfl ?_
  refine k_iload_n dX11_isChild_0 rfl ?_
  refine k_iconst dX11_isChild_1 ?_
  refine k_aload_n dX11_isChild_2 rfl ?_
  refine k_getR dX11_isChild_3 f_X11_10 (Nat.le_of_ble_eq_true rfl) sh_o0 (fun _ => rfl) ?_
  refine k_getI dX11_isChild_6 f_X11_65 (Nat.le_of_ble_eq_true rfl) (Rd.o rd1) (fun _ => rfl) ?_
  refine k_iconst dX11_isChild_9 ?_
  refine k_isub dX11_isChild_10 ?_
  refine k_callSi [.int (iI _), .int (iI _), .int (iI _)] dX11_isChild_11 s_X11_isChild_57 rfl (m_within (by first | assumption | exact ⟨by omega, by omega⟩) ⟨by omega, by omega⟩ ⟨by omega, by omega⟩) rfl (Nat.le_of_ble_eq_true rfl) ?_
  rintro _ _ ⟨rfl, rfl⟩
  exact k_zret dX11_isChild_14 rfl (by unfold bI; split <;> omega) ⟨_, rfl, by omega, rfl⟩
theorem m_noneIfNever {G : Mem} {n : Int} (hn : 0 ≤ n ∧ n ≤ 61) : MP M_X11_noneIfNever [.int (iI n)] G (vx (if n = 61 then -1 else n) G) := by
  refine MP.of [some (.int (iI n))] (plainFor_of_name pn_X11) (Nat.le_of_ble_eq_true rfl) rfl ?_
  refine k_iload_n dX11_noneIfNever_0 rfl ?_
  refine k_bipush dX11_noneIfNever_1 (by decide) ?_
  refine k_icmp_ne 10 dX11_noneIfNever_3 (by decide) ⟨by omega, by omega⟩ ⟨by decide, by decide⟩ (fun h3 => ?_) (fun h3 => ?_)
  · skip
    refine k_iload_n dX11_noneIfNever_10 rfl ?_
    exact k_iret dX11_noneIfNever_11 rfl ⟨_, rfl, by first | exact if_pos (by omega) | exact if_neg (by omega), rfl⟩
  · skip
    refine k_iconst dX11_noneIfNever_6 ?_
    refine k_goto 11 dX11_noneIfNever_7 (by decide) ?_
    exact k_iret dX11_noneIfNever_11 rfl ⟨_, rfl, by first | exact if_pos (by omega) | exact if_neg (by omega), rfl⟩
theorem m_refuseBad {G : Mem} {x : Int} : MP M_X11_refuseBad [.ref 0, .int (iI x)] G (vi fun v g => x = v ∧ rB G = g) := by
  refine MP.of [some (.ref 0), some (.int (iI x))] (plainFor_of_name pn_X11) (Nat.le_of_ble_eq_true rfl) rfl ?_
  refine k_aload_n dX11_refuseBad_0 rfl ?_
  refine k_dup dX11_refuseBad_1 rfl ?_
  refine k_getI dX11_refuseBad_2 f_X11_243 (Nat.le_of_ble_eq_true rfl) sh_o0 (fun _ => rfl) ?_
  refine k_iconst dX11_refuseBad_5 ?_
  refine k_iadd dX11_refuseBad_6 ?_
  refine k_putI dX11_refuseBad_7 f_X11_243 (Nat.le_of_ble_eq_true rfl) sh_o0 (fun _ => (Nat.le_of_ble_eq_true rfl)) rfl (fun _ => rfl) ?_
  refine k_iload_n dX11_refuseBad_10 rfl ?_
  exact k_iret dX11_refuseBad_11 rfl ⟨_, rfl, by omega, rfl⟩
theorem m_refuseNo {G : Mem} : MP M_X11_refuseNo [.ref 0] G (vi fun v g => -3 = v ∧ rN G = g) := by
  refine MP.of [some (.ref 0)] (plainFor_of_name pn_X11) (Nat.le_of_ble_eq_true rfl) rfl ?_
  refine k_aload_n dX11_refuseNo_0 rfl ?_
  refine k_dup dX11_refuseNo_1 rfl ?_
  refine k_getI dX11_refuseNo_2 f_X11_246 (Nat.le_of_ble_eq_true rfl) sh_o0 (fun _ => rfl) ?_
  refine k_iconst dX11_refuseNo_5 ?_
  refine k_iadd dX11_refuseNo_6 ?_
  refine k_putI dX11_refuseNo_7 f_X11_246 (Nat.le_of_ble_eq_true rfl) sh_o0 (fun _ => (Nat.le_of_ble_eq_true rfl)) rfl (fun _ => rfl) ?_
  refine k_bipush dX11_refuseNo_10 (by decide) ?_
  exact k_iret dX11_refuseNo_12 rfl ⟨_, rfl, by omega, rfl⟩
theorem m_refuseFull {G : Mem} : MP M_X11_refuseFull [.ref 0] G (vi fun v g => -4 = v ∧ rF G = g) := by
  refine MP.of [some (.ref 0)] (plainFor_of_name pn_X11) (Nat.le_of_ble_eq_true rfl) rfl ?_
  refine k_aload_n dX11_refuseFull_0 rfl ?_
  refine k_dup dX11_refuseFull_1 rfl ?_
  refine k_getI dX11_refuseFull_2 f_X11_249 (Nat.le_of_ble_eq_true rfl) sh_o0 (fun _ => rfl) ?_
  refine k_iconst dX11_refuseFull_5 ?_
  refine k_iadd dX11_refuseFull_6 ?_
  refine k_putI dX11_refuseFull_7 f_X11_249 (Nat.le_of_ble_eq_true rfl) sh_o0 (fun _ => (Nat.le_of_ble_eq_true rfl)) rfl (fun _ => rfl) ?_
  refine k_bipush dX11_refuseFull_10 (by decide) ?_
  exact k_iret dX11_refuseFull_12 rfl ⟨_, rfl, by omega, rfl⟩
theorem m_countOf {G : Mem} {w : Int} (hw : 0 ≤ w ∧ w ≤ 6) : MP M_X11_countOf [.ref 0, .int (iI w)] G (vx (if w = 0 then G 1 2 else if w = 1 then G 1 0 else if w = 2 then G 1 1 else if w = 3 then G 1 8 else if w = 4 then G 1 10 else if w = 5 then G 1 14 else G 53 1) G) := by
  refine MP.of [some (.ref 0), some (.int (iI w))] (plainFor_of_name pn_X11) (Nat.le_of_ble_eq_true rfl) rfl ?_
  refine k_iload_n dX11_countOf_0 rfl ?_
  rcases (show w = 0 ∨ w = 1 ∨ w = 2 ∨ w = 3 ∨ w = 4 ∨ w = 5 ∨ w = 6 from by omega) with hts | hts | hts | hts | hts | hts | hts
  · skip
    refine k_tsIn 40 dX11_countOf_1 0 hts ⟨by decide, by decide⟩ ⟨by decide, by decide⟩ (off := 39) rfl (by decide) ?_
    refine k_aload_n dX11_countOf_40 rfl ?_
    refine k_getR dX11_countOf_41 f_X11_10 (Nat.le_of_ble_eq_true rfl) sh_o0 (fun _ => rfl) ?_
    refine k_getI dX11_countOf_44 f_X11_65 (Nat.le_of_ble_eq_true rfl) (Rd.o rd1) (fun _ => rfl) ?_
    exact k_iret dX11_countOf_47 rfl ⟨_, rfl, by rw [hts]; rfl, rfl⟩
  · skip
    refine k_tsIn 48 dX11_countOf_1 1 hts ⟨by decide, by decide⟩ ⟨by decide, by decide⟩ (off := 47) rfl (by decide) ?_
    refine k_aload_n dX11_countOf_48 rfl ?_
    refine k_getR dX11_countOf_49 f_X11_10 (Nat.le_of_ble_eq_true rfl) sh_o0 (fun _ => rfl) ?_
    refine k_getI dX11_countOf_52 f_X11_75 (Nat.le_of_ble_eq_true rfl) (Rd.o rd1) (fun _ => rfl) ?_
    exact k_iret dX11_countOf_55 rfl ⟨_, rfl, by rw [hts]; rfl, rfl⟩
  · skip
    refine k_tsIn 56 dX11_countOf_1 2 hts ⟨by decide, by decide⟩ ⟨by decide, by decide⟩ (off := 55) rfl (by decide) ?_
    refine k_aload_n dX11_countOf_56 rfl ?_
    refine k_getR dX11_countOf_57 f_X11_10 (Nat.le_of_ble_eq_true rfl) sh_o0 (fun _ => rfl) ?_
    refine k_getI dX11_countOf_60 f_X11_72 (Nat.le_of_ble_eq_true rfl) (Rd.o rd1) (fun _ => rfl) ?_
    exact k_iret dX11_countOf_63 rfl ⟨_, rfl, by rw [hts]; rfl, rfl⟩
  · skip
    refine k_tsIn 64 dX11_countOf_1 3 hts ⟨by decide, by decide⟩ ⟨by decide, by decide⟩ (off := 63) rfl (by decide) ?_
    refine k_aload_n dX11_countOf_64 rfl ?_
    refine k_getR dX11_countOf_65 f_X11_10 (Nat.le_of_ble_eq_true rfl) sh_o0 (fun _ => rfl) ?_
    refine k_getI dX11_countOf_68 f_X11_179 (Nat.le_of_ble_eq_true rfl) (Rd.o rd1) (fun _ => rfl) ?_
    exact k_iret dX11_countOf_71 rfl ⟨_, rfl, by rw [hts]; rfl, rfl⟩
  · skip
    refine k_tsIn 72 dX11_countOf_1 4 hts ⟨by decide, by decide⟩ ⟨by decide, by decide⟩ (off := 71) rfl (by decide) ?_
    refine k_aload_n dX11_countOf_72 rfl ?_
    refine k_getR dX11_countOf_73 f_X11_10 (Nat.le_of_ble_eq_true rfl) sh_o0 (fun _ => rfl) ?_
    refine k_getI dX11_countOf_76 f_X11_197 (Nat.le_of_ble_eq_true rfl) (Rd.o rd1) (fun _ => rfl) ?_
    exact k_iret dX11_countOf_79 rfl ⟨_, rfl, by rw [hts]; rfl, rfl⟩
  · skip
    refine k_tsIn 80 dX11_countOf_1 5 hts ⟨by decide, by decide⟩ ⟨by decide, by decide⟩ (off := 79) rfl (by decide) ?_
    refine k_aload_n dX11_countOf_80 rfl ?_
    refine k_getR dX11_countOf_81 f_X11_10 (Nat.le_of_ble_eq_true rfl) sh_o0 (fun _ => rfl) ?_
    refine k_getI dX11_countOf_84 f_X11_104 (Nat.le_of_ble_eq_true rfl) (Rd.o rd1) (fun _ => rfl) ?_
    exact k_iret dX11_countOf_87 rfl ⟨_, rfl, by rw [hts]; rfl, rfl⟩
  · skip
    refine k_tsOut 88 dX11_countOf_1 ⟨by omega, by omega⟩ (by omega) (by decide) ?_
    refine k_aload_n dX11_countOf_88 rfl ?_
    refine k_getR dX11_countOf_89 f_X11_28 (Nat.le_of_ble_eq_true rfl) sh_o0 (fun _ => rfl) ?_
    refine k_getI dX11_countOf_92 f_X11_113 (Nat.le_of_ble_eq_true rfl) sh_o53 (fun _ => rfl) ?_
    exact k_iret dX11_countOf_95 rfl ⟨_, rfl, by rw [hts]; rfl, rfl⟩
theorem m_pRoad {G : Mem} {s l : Int} (hs : R32 s) (hl : R32 l) : MP M_X11_road [.ref 0, .int (iI s), .int (iI l)] G (vi fun v g => if (0 ≤ s ∧ s ≤ 47) ∧ (0 ≤ l ∧ l ≤ 2) then (G 1 2 = v ∧ rBegin G 1 s l = g) else (-2 = v ∧ rB G = g)) := by
  refine MP.of [some (.ref 0), some (.int (iI s)), some (.int (iI l)), none] (plainFor_of_name pn_X11) (Nat.le_of_ble_eq_true rfl) rfl ?_
  refine k_iload_n dX11_road_0 rfl ?_
  refine k_iconst dX11_road_1 ?_
  refine k_bipush dX11_road_2 (by decide) ?_
  refine k_callSi [.int (iI _), .int (iI _), .int (iI _)] dX11_road_4 s_X11_road_57 rfl (m_within (by first | assumption | exact ⟨by omega, by omega⟩) ⟨by omega, by omega⟩ ⟨by omega, by omega⟩) rfl (Nat.le_of_ble_eq_true rfl) ?_
  rintro _ _ ⟨rfl, rfl⟩
  refine k_ifb_eq 19 dX11_road_7 (by decide) (fun h7 => ?_) (fun h7 => ?_)
  · skip
    refine k_aload_n dX11_road_19 rfl ?_
    refine k_bipush dX11_road_20 (by decide) ?_
    refine k_callVi [.int (iI _)] dX11_road_22 s_X11_road_61 rfl m_refuseBad rfl (Nat.le_of_ble_eq_true rfl) sh_o0 ⟨_, rfl, rfl⟩ (Nat.le_of_ble_eq_true rfl) ?_
    rintro _ _ ⟨rfl, rfl⟩
    exact k_iret dX11_road_25 rfl ⟨_, rfl, by (try dsimp only); first | (rw [if_pos (by omega)]; exact ⟨rfl, rfl⟩) | (rw [if_neg (by omega)]; exact ⟨rfl, rfl⟩)⟩
  · skip
    refine k_iload_n dX11_road_10 rfl ?_
    refine k_iconst dX11_road_11 ?_
    refine k_iconst dX11_road_12 ?_
    refine k_callSi [.int (iI _), .int (iI _), .int (iI _)] dX11_road_13 s_X11_road_57 rfl (m_within (by first | assumption | exact ⟨by omega, by omega⟩) ⟨by omega, by omega⟩ ⟨by omega, by omega⟩) rfl (Nat.le_of_ble_eq_true rfl) ?_
    rintro _ _ ⟨rfl, rfl⟩
    refine k_ifb_ne 26 dX11_road_16 (by decide) (fun h16 => ?_) (fun h16 => ?_)
    · skip
      refine k_aload_n dX11_road_26 rfl ?_
      refine k_getR dX11_road_27 f_X11_10 (Nat.le_of_ble_eq_true rfl) sh_o0 (fun _ => rfl) ?_
      refine k_getI dX11_road_30 f_X11_65 (Nat.le_of_ble_eq_true rfl) (Rd.o rd1) (fun _ => rfl) ?_
      refine k_istore_n (L' := [_, _, _, _]) dX11_road_33 (Nat.le_of_ble_eq_true rfl) rfl ?_
      refine k_aload_n dX11_road_34 rfl ?_
      refine k_getR dX11_road_35 f_X11_10 (Nat.le_of_ble_eq_true rfl) sh_o0 (fun _ => rfl) ?_
      refine k_iload_n dX11_road_38 rfl ?_
      refine k_iload_n dX11_road_39 rfl ?_
      refine k_callVv [.int (iI _), .int (iI _)] dX11_road_40 s_X11_road_68 rfl (m_begin rd1) rfl (Nat.le_of_ble_eq_true rfl) (Rd.o rd1) ⟨_, rfl, rfl⟩ (Nat.le_of_ble_eq_true rfl) ?_
      rintro _ rfl
      refine k_iload_n dX11_road_43 rfl ?_
      exact k_iret dX11_road_44 rfl ⟨_, rfl, by (try dsimp only); first | (rw [if_pos (by omega)]; exact ⟨rfl, rfl⟩) | (rw [if_neg (by omega)]; exact ⟨rfl, rfl⟩)⟩
    · skip
      refine k_aload_n dX11_road_19 rfl ?_
      refine k_bipush dX11_road_20 (by decide) ?_
      refine k_callVi [.int (iI _)] dX11_road_22 s_X11_road_61 rfl m_refuseBad rfl (Nat.le_of_ble_eq_true rfl) sh_o0 ⟨_, rfl, rfl⟩ (Nat.le_of_ble_eq_true rfl) ?_
      rintro _ _ ⟨rfl, rfl⟩
      exact k_iret dX11_road_25 rfl ⟨_, rfl, by (try dsimp only); first | (rw [if_pos (by omega)]; exact ⟨rfl, rfl⟩) | (rw [if_neg (by omega)]; exact ⟨rfl, rfl⟩)⟩
theorem m_pRule {G : Mem} {n : Int} (hn : R32 n) : MP M_X11_rule [.ref 0, .int (iI n)] G (vi fun v g => if 0 ≤ n ∧ n ≤ 2 then (G 1 1 = v ∧ ug G 1 1 n = g) else (-2 = v ∧ rB G = g)) := by
  refine MP.of [some (.ref 0), some (.int (iI n)), none] (plainFor_of_name pn_X11) (Nat.le_of_ble_eq_true rfl) rfl ?_
  refine k_iload_n dX11_rule_0 rfl ?_
  refine k_iconst dX11_rule_1 ?_
  refine k_iconst dX11_rule_2 ?_
  refine k_callSi [.int (iI _), .int (iI _), .int (iI _)] dX11_rule_3 s_X11_rule_57 rfl (m_within (by first | assumption | exact ⟨by omega, by omega⟩) ⟨by omega, by omega⟩ ⟨by omega, by omega⟩) rfl (Nat.le_of_ble_eq_true rfl) ?_
  rintro _ _ ⟨rfl, rfl⟩
  refine k_ifb_ne 16 dX11_rule_6 (by decide) (fun h6 => ?_) (fun h6 => ?_)
  · skip
    refine k_aload_n dX11_rule_16 rfl ?_
    refine k_getR dX11_rule_17 f_X11_10 (Nat.le_of_ble_eq_true rfl) sh_o0 (fun _ => rfl) ?_
    refine k_getI dX11_rule_20 f_X11_72 (Nat.le_of_ble_eq_true rfl) (Rd.o rd1) (fun _ => rfl) ?_
    refine k_istore_n (L' := [_, _, _]) dX11_rule_23 (Nat.le_of_ble_eq_true rfl) rfl ?_
    refine k_aload_n dX11_rule_24 rfl ?_
    refine k_getR dX11_rule_25 f_X11_10 (Nat.le_of_ble_eq_true rfl) sh_o0 (fun _ => rfl) ?_
    refine k_iload_n dX11_rule_28 rfl ?_
    refine k_putI dX11_rule_29 f_X11_72 (Nat.le_of_ble_eq_true rfl) (Rd.o rd1) (fun _ => (Nat.le_of_ble_eq_true rfl)) rfl (fun _ => rfl) ?_
    refine k_iload_n dX11_rule_32 rfl ?_
    exact k_iret dX11_rule_33 rfl ⟨_, rfl, by (try dsimp only); first | (rw [if_pos (by omega)]; exact ⟨rfl, rfl⟩) | (rw [if_neg (by omega)]; exact ⟨rfl, rfl⟩)⟩
  · skip
    refine k_aload_n dX11_rule_9 rfl ?_
    refine k_bipush dX11_rule_10 (by decide) ?_
    refine k_callVi [.int (iI _)] dX11_rule_12 s_X11_rule_61 rfl m_refuseBad rfl (Nat.le_of_ble_eq_true rfl) sh_o0 ⟨_, rfl, rfl⟩ (Nat.le_of_ble_eq_true rfl) ?_
    rintro _ _ ⟨rfl, rfl⟩
    exact k_iret dX11_rule_15 rfl ⟨_, rfl, by (try dsimp only); first | (rw [if_pos (by omega)]; exact ⟨rfl, rfl⟩) | (rw [if_neg (by omega)]; exact ⟨rfl, rfl⟩)⟩
theorem m_pSight {G : Mem} {n : Int} (hn : R32 n) : MP M_X11_sight [.ref 0, .int (iI n)] G (vi fun v g => if 0 ≤ n ∧ n ≤ 47 then (G 1 0 = v ∧ ug G 1 0 n = g) else (-2 = v ∧ rB G = g)) := by
  refine MP.of [some (.ref 0), some (.int (iI n)), none] (plainFor_of_name pn_X11) (Nat.le_of_ble_eq_true rfl) rfl ?_
  refine k_iload_n dX11_sight_0 rfl ?_
  refine k_iconst dX11_sight_1 ?_
  refine k_bipush dX11_sight_2 (by decide) ?_
  refine k_callSi [.int (iI _), .int (iI _), .int (iI _)] dX11_sight_4 s_X11_sight_57 rfl (m_within (by first | assumption | exact ⟨by omega, by omega⟩) ⟨by omega, by omega⟩ ⟨by omega, by omega⟩) rfl (Nat.le_of_ble_eq_true rfl) ?_
  rintro _ _ ⟨rfl, rfl⟩
  refine k_ifb_ne 17 dX11_sight_7 (by decide) (fun h7 => ?_) (fun h7 => ?_)
  · skip
    refine k_aload_n dX11_sight_17 rfl ?_
    refine k_getR dX11_sight_18 f_X11_10 (Nat.le_of_ble_eq_true rfl) sh_o0 (fun _ => rfl) ?_
    refine k_getI dX11_sight_21 f_X11_75 (Nat.le_of_ble_eq_true rfl) (Rd.o rd1) (fun _ => rfl) ?_
    refine k_istore_n (L' := [_, _, _]) dX11_sight_24 (Nat.le_of_ble_eq_true rfl) rfl ?_
    refine k_aload_n dX11_sight_25 rfl ?_
    refine k_getR dX11_sight_26 f_X11_10 (Nat.le_of_ble_eq_true rfl) sh_o0 (fun _ => rfl) ?_
    refine k_iload_n dX11_sight_29 rfl ?_
    refine k_putI dX11_sight_30 f_X11_75 (Nat.le_of_ble_eq_true rfl) (Rd.o rd1) (fun _ => (Nat.le_of_ble_eq_true rfl)) rfl (fun _ => rfl) ?_
    refine k_iload_n dX11_sight_33 rfl ?_
    exact k_iret dX11_sight_34 rfl ⟨_, rfl, by (try dsimp only); first | (rw [if_pos (by omega)]; exact ⟨rfl, rfl⟩) | (rw [if_neg (by omega)]; exact ⟨rfl, rfl⟩)⟩
  · skip
    refine k_aload_n dX11_sight_10 rfl ?_
    refine k_bipush dX11_sight_11 (by decide) ?_
    refine k_callVi [.int (iI _)] dX11_sight_13 s_X11_sight_61 rfl m_refuseBad rfl (Nat.le_of_ble_eq_true rfl) sh_o0 ⟨_, rfl, rfl⟩ (Nat.le_of_ble_eq_true rfl) ?_
    rintro _ _ ⟨rfl, rfl⟩
    exact k_iret dX11_sight_16 rfl ⟨_, rfl, by (try dsimp only); first | (rw [if_pos (by omega)]; exact ⟨rfl, rfl⟩) | (rw [if_neg (by omega)]; exact ⟨rfl, rfl⟩)⟩
theorem m_pClear {G : Mem} : MP M_X11_clear [.ref 0] G (vi fun v g => G 53 1 = v ∧ ug G 53 1 0 = g) := by
  refine MP.of [some (.ref 0), none] (plainFor_of_name pn_X11) (Nat.le_of_ble_eq_true rfl) rfl ?_
  refine k_aload_n dX11_clear_0 rfl ?_
  refine k_getR dX11_clear_1 f_X11_28 (Nat.le_of_ble_eq_true rfl) sh_o0 (fun _ => rfl) ?_
  refine k_getI dX11_clear_4 f_X11_113 (Nat.le_of_ble_eq_true rfl) sh_o53 (fun _ => rfl) ?_
  refine k_istore_n (L' := [_, _]) dX11_clear_7 (Nat.le_of_ble_eq_true rfl) rfl ?_
  refine k_aload_n dX11_clear_8 rfl ?_
  refine k_getR dX11_clear_9 f_X11_28 (Nat.le_of_ble_eq_true rfl) sh_o0 (fun _ => rfl) ?_
  refine k_iconst dX11_clear_12 ?_
  refine k_putI dX11_clear_13 f_X11_113 (Nat.le_of_ble_eq_true rfl) sh_o53 (fun _ => (Nat.le_of_ble_eq_true rfl)) rfl (fun _ => rfl) ?_
  refine k_iload_n dX11_clear_16 rfl ?_
  exact k_iret dX11_clear_17 rfl ⟨_, rfl, rfl, rfl⟩
theorem m_pStop {G : Mem} : MP M_X11_stop [.ref 0] G (vi fun v g => G 1 8 = v ∧ ug G 1 8 0 = g) := by
  refine MP.of [some (.ref 0), none] (plainFor_of_name pn_X11) (Nat.le_of_ble_eq_true rfl) rfl ?_
  refine k_aload_n dX11_stop_0 rfl ?_
  refine k_getR dX11_stop_1 f_X11_10 (Nat.le_of_ble_eq_true rfl) sh_o0 (fun _ => rfl) ?_
  refine k_getI dX11_stop_4 f_X11_179 (Nat.le_of_ble_eq_true rfl) (Rd.o rd1) (fun _ => rfl) ?_
  refine k_istore_n (L' := [_, _]) dX11_stop_7 (Nat.le_of_ble_eq_true rfl) rfl ?_
  refine k_aload_n dX11_stop_8 rfl ?_
  refine k_getR dX11_stop_9 f_X11_10 (Nat.le_of_ble_eq_true rfl) sh_o0 (fun _ => rfl) ?_
  refine k_iconst dX11_stop_12 ?_
  refine k_putI dX11_stop_13 f_X11_179 (Nat.le_of_ble_eq_true rfl) (Rd.o rd1) (fun _ => (Nat.le_of_ble_eq_true rfl)) rfl (fun _ => rfl) ?_
  refine k_iload_n dX11_stop_16 rfl ?_
  exact k_iret dX11_stop_17 rfl ⟨_, rfl, rfl, rfl⟩
theorem m_pForget {G : Mem} : MP M_X11_forget [.ref 0] G (vi fun v g => G 1 10 = v ∧ ug G 1 10 0 = g) := by
  refine MP.of [some (.ref 0), none] (plainFor_of_name pn_X11) (Nat.le_of_ble_eq_true rfl) rfl ?_
  refine k_aload_n dX11_forget_0 rfl ?_
  refine k_getR dX11_forget_1 f_X11_10 (Nat.le_of_ble_eq_true rfl) sh_o0 (fun _ => rfl) ?_
  refine k_getI dX11_forget_4 f_X11_197 (Nat.le_of_ble_eq_true rfl) (Rd.o rd1) (fun _ => rfl) ?_
  refine k_istore_n (L' := [_, _]) dX11_forget_7 (Nat.le_of_ble_eq_true rfl) rfl ?_
  refine k_aload_n dX11_forget_8 rfl ?_
  refine k_getR dX11_forget_9 f_X11_10 (Nat.le_of_ble_eq_true rfl) sh_o0 (fun _ => rfl) ?_
  refine k_iconst dX11_forget_12 ?_
  refine k_putI dX11_forget_13 f_X11_197 (Nat.le_of_ble_eq_true rfl) (Rd.o rd1) (fun _ => (Nat.le_of_ble_eq_true rfl)) rfl (fun _ => rfl) ?_
  refine k_iload_n dX11_forget_16 rfl ?_
  exact k_iret dX11_forget_17 rfl ⟨_, rfl, rfl, rfl⟩
theorem m_pType {G : Mem} (hG : 0 ≤ G 53 1 ∧ G 53 1 ≤ 150) {c : Int} (hc : R32 c) : MP M_X11_type [.ref 0, .int (iI c)] G (vi fun v g => if 0 ≤ c ∧ c ≤ 127 then (if G 53 1 < 150 then (G 53 1 + 1 = v ∧ ug (ug G 54 (G 53 1).toNat c) 53 1 (G 53 1 + 1) = g) else (-4 = v ∧ rF G = g)) else (-2 = v ∧ rB G = g)) := by
  refine MP.of [some (.ref 0), some (.int (iI c))] (plainFor_of_name pn_X11) (Nat.le_of_ble_eq_true rfl) rfl ?_
  refine k_iload_n dX11_type_0 rfl ?_
  refine k_iconst dX11_type_1 ?_
  refine k_bipush dX11_type_2 (by decide) ?_
  refine k_callSi [.int (iI _), .int (iI _), .int (iI _)] dX11_type_4 s_X11_type_57 rfl (m_within (by first | assumption | exact ⟨by omega, by omega⟩) ⟨by omega, by omega⟩ ⟨by omega, by omega⟩) rfl (Nat.le_of_ble_eq_true rfl) ?_
  rintro _ _ ⟨rfl, rfl⟩
  refine k_ifb_ne 17 dX11_type_7 (by decide) (fun h7 => ?_) (fun h7 => ?_)
  · skip
    refine k_aload_n dX11_type_17 rfl ?_
    refine k_getR dX11_type_18 f_X11_28 (Nat.le_of_ble_eq_true rfl) sh_o0 (fun _ => rfl) ?_
    try simp (disch := omega) only [ug_at, ug_nc, ug_np, cg_nc]
    refine k_getI dX11_type_21 f_X11_113 (Nat.le_of_ble_eq_true rfl) sh_o53 (fun _ => rfl) ?_
    try simp (disch := omega) only [ug_at, ug_nc, ug_np, cg_nc]
    refine k_sipush dX11_type_24 (by decide) ?_
    refine k_icmp_lt 35 dX11_type_27 (by decide) ⟨by omega, by omega⟩ ⟨by decide, by decide⟩ (fun h27 => ?_) (fun h27 => ?_)
    · skip
      refine k_aload_n dX11_type_35 rfl ?_
      refine k_getR dX11_type_36 f_X11_28 (Nat.le_of_ble_eq_true rfl) sh_o0 (fun _ => rfl) ?_
      try simp (disch := omega) only [ug_at, ug_nc, ug_np, cg_nc]
      refine k_iload_n dX11_type_39 rfl ?_
      refine k_callVv [.int (iI _)] dX11_type_40 s_X11_type_116 rfl (m_append hG) rfl (Nat.le_of_ble_eq_true rfl) sh_o53 ⟨_, rfl, rfl⟩ (Nat.le_of_ble_eq_true rfl) ?_
      rintro _ rfl
      rw [if_neg (by omega)]
      refine k_aload_n dX11_type_43 rfl ?_
      refine k_getR dX11_type_44 f_X11_28 (Nat.le_of_ble_eq_true rfl) sh_o0 (fun _ => rfl) ?_
      try simp (disch := omega) only [ug_at, ug_nc, ug_np, cg_nc]
      refine k_getI dX11_type_47 f_X11_113 (Nat.le_of_ble_eq_true rfl) sh_o53 (fun _ => rfl) ?_
      try simp (disch := omega) only [ug_at, ug_nc, ug_np, cg_nc]
      exact k_iret dX11_type_50 rfl ⟨_, rfl, by (try dsimp only); first | (rw [if_pos (by omega), if_pos (by omega)]; exact ⟨rfl, rfl⟩) | (rw [if_pos (by omega), if_neg (by omega)]; exact ⟨rfl, rfl⟩) | (rw [if_neg (by omega)]; exact ⟨rfl, rfl⟩)⟩
    · skip
      refine k_aload_n dX11_type_30 rfl ?_
      refine k_callVi [] dX11_type_31 s_X11_type_82 rfl m_refuseFull rfl (Nat.le_of_ble_eq_true rfl) sh_o0 ⟨_, rfl, rfl⟩ (Nat.le_of_ble_eq_true rfl) ?_
      rintro _ _ ⟨rfl, rfl⟩
      exact k_iret dX11_type_34 rfl ⟨_, rfl, by (try dsimp only); first | (rw [if_pos (by omega), if_pos (by omega)]; exact ⟨rfl, rfl⟩) | (rw [if_pos (by omega), if_neg (by omega)]; exact ⟨rfl, rfl⟩) | (rw [if_neg (by omega)]; exact ⟨rfl, rfl⟩)⟩
  · skip
    refine k_aload_n dX11_type_10 rfl ?_
    refine k_bipush dX11_type_11 (by decide) ?_
    refine k_callVi [.int (iI _)] dX11_type_13 s_X11_type_61 rfl m_refuseBad rfl (Nat.le_of_ble_eq_true rfl) sh_o0 ⟨_, rfl, rfl⟩ (Nat.le_of_ble_eq_true rfl) ?_
    rintro _ _ ⟨rfl, rfl⟩
    exact k_iret dX11_type_16 rfl ⟨_, rfl, by (try dsimp only); first | (rw [if_pos (by omega), if_pos (by omega)]; exact ⟨rfl, rfl⟩) | (rw [if_pos (by omega), if_neg (by omega)]; exact ⟨rfl, rfl⟩) | (rw [if_neg (by omega)]; exact ⟨rfl, rfl⟩)⟩
theorem m_pSpeed {G : Mem} (h8 : 0 ≤ G 1 8 ∧ G 1 8 ≤ 20) {n : Int} (hn : R32 n) : MP M_X11_speed [.ref 0, .int (iI n)] G (vi fun v g => if 0 ≤ n ∧ n ≤ 15 then (if G 1 8 < 20 then (G 1 8 + 1 = v ∧ ug (ug G (1 + 6) (G 1 8).toNat n) 1 8 (G 1 8 + 1) = g) else (-4 = v ∧ rF G = g)) else (-2 = v ∧ rB G = g)) := by
  refine MP.of [some (.ref 0), some (.int (iI n))] (plainFor_of_name pn_X11) (Nat.le_of_ble_eq_true rfl) rfl ?_
  refine k_iload_n dX11_speed_0 rfl ?_
  refine k_iconst dX11_speed_1 ?_
  refine k_bipush dX11_speed_2 (by decide) ?_
  refine k_callSi [.int (iI _), .int (iI _), .int (iI _)] dX11_speed_4 s_X11_speed_57 rfl (m_within (by first | assumption | exact ⟨by omega, by omega⟩) ⟨by omega, by omega⟩ ⟨by omega, by omega⟩) rfl (Nat.le_of_ble_eq_true rfl) ?_
  rintro _ _ ⟨rfl, rfl⟩
  refine k_ifb_ne 17 dX11_speed_7 (by decide) (fun h7 => ?_) (fun h7 => ?_)
  · skip
    refine k_aload_n dX11_speed_17 rfl ?_
    refine k_getR dX11_speed_18 f_X11_10 (Nat.le_of_ble_eq_true rfl) sh_o0 (fun _ => rfl) ?_
    try simp (disch := omega) only [ug_at, ug_nc, ug_np, cg_nc]
    refine k_getI dX11_speed_21 f_X11_179 (Nat.le_of_ble_eq_true rfl) (Rd.o rd1) (fun _ => rfl) ?_
    try simp (disch := omega) only [ug_at, ug_nc, ug_np, cg_nc]
    refine k_bipush dX11_speed_24 (by decide) ?_
    refine k_icmp_lt 34 dX11_speed_26 (by decide) ⟨by omega, by omega⟩ ⟨by decide, by decide⟩ (fun h26 => ?_) (fun h26 => ?_)
    · skip
      refine k_aload_n dX11_speed_34 rfl ?_
      refine k_getR dX11_speed_35 f_X11_10 (Nat.le_of_ble_eq_true rfl) sh_o0 (fun _ => rfl) ?_
      try simp (disch := omega) only [ug_at, ug_nc, ug_np, cg_nc]
      refine k_iload_n dX11_speed_38 rfl ?_
      refine k_callVv [.int (iI _)] dX11_speed_39 s_X11_speed_182 rfl (m_addSpeed rd1 h8) rfl (Nat.le_of_ble_eq_true rfl) (Rd.o rd1) ⟨_, rfl, rfl⟩ (Nat.le_of_ble_eq_true rfl) ?_
      rintro _ rfl
      unfold rSpd
      rw [if_neg (by omega)]
      refine k_aload_n dX11_speed_42 rfl ?_
      refine k_getR dX11_speed_43 f_X11_10 (Nat.le_of_ble_eq_true rfl) sh_o0 (fun _ => rfl) ?_
      try simp (disch := omega) only [ug_at, ug_nc, ug_np, cg_nc]
      refine k_getI dX11_speed_46 f_X11_179 (Nat.le_of_ble_eq_true rfl) (Rd.o rd1) (fun _ => rfl) ?_
      try simp (disch := omega) only [ug_at, ug_nc, ug_np, cg_nc]
      exact k_iret dX11_speed_49 rfl ⟨_, rfl, by (try dsimp only); first | (rw [if_pos (by omega), if_pos (by omega)]; exact ⟨rfl, rfl⟩) | (rw [if_pos (by omega), if_neg (by omega)]; exact ⟨rfl, rfl⟩) | (rw [if_neg (by omega)]; exact ⟨rfl, rfl⟩)⟩
    · skip
      refine k_aload_n dX11_speed_29 rfl ?_
      refine k_callVi [] dX11_speed_30 s_X11_speed_82 rfl m_refuseFull rfl (Nat.le_of_ble_eq_true rfl) sh_o0 ⟨_, rfl, rfl⟩ (Nat.le_of_ble_eq_true rfl) ?_
      rintro _ _ ⟨rfl, rfl⟩
      exact k_iret dX11_speed_33 rfl ⟨_, rfl, by (try dsimp only); first | (rw [if_pos (by omega), if_pos (by omega)]; exact ⟨rfl, rfl⟩) | (rw [if_pos (by omega), if_neg (by omega)]; exact ⟨rfl, rfl⟩) | (rw [if_neg (by omega)]; exact ⟨rfl, rfl⟩)⟩
  · skip
    refine k_aload_n dX11_speed_10 rfl ?_
    refine k_bipush dX11_speed_11 (by decide) ?_
    refine k_callVi [.int (iI _)] dX11_speed_13 s_X11_speed_61 rfl m_refuseBad rfl (Nat.le_of_ble_eq_true rfl) sh_o0 ⟨_, rfl, rfl⟩ (Nat.le_of_ble_eq_true rfl) ?_
    rintro _ _ ⟨rfl, rfl⟩
    exact k_iret dX11_speed_16 rfl ⟨_, rfl, by (try dsimp only); first | (rw [if_pos (by omega), if_pos (by omega)]; exact ⟨rfl, rfl⟩) | (rw [if_pos (by omega), if_neg (by omega)]; exact ⟨rfl, rfl⟩) | (rw [if_neg (by omega)]; exact ⟨rfl, rfl⟩)⟩
theorem m_pUndo {G : Mem} (h14 : 0 ≤ G 1 14 ∧ G 1 14 ≤ 8) (hz : ∀ j, G (1 + 11) j = 0 ∨ G (1 + 11) j = 1) (hc : ∀ j, 0 ≤ G (1 + 10) j ∧ G (1 + 10) j ≤ 5) : MP M_X11_undo [.ref 0] G (vi fun v g => if 0 < G 1 14 then (rUndo G 1 1 14 = v ∧ rUndo G 1 = g) else (-3 = v ∧ rN G = g)) := by
  refine MP.of [some (.ref 0)] (plainFor_of_name pn_X11) (Nat.le_of_ble_eq_true rfl) rfl ?_
  refine k_aload_n dX11_undo_0 rfl ?_
  refine k_getR dX11_undo_1 f_X11_10 (Nat.le_of_ble_eq_true rfl) sh_o0 (fun _ => rfl) ?_
  refine k_getI dX11_undo_4 f_X11_104 (Nat.le_of_ble_eq_true rfl) (Rd.o rd1) (fun _ => rfl) ?_
  refine k_if_gt 15 dX11_undo_7 (by decide) ⟨by omega, by omega⟩ (fun h7 => ?_) (fun h7 => ?_)
  · skip
    refine k_aload_n dX11_undo_15 rfl ?_
    refine k_getR dX11_undo_16 f_X11_10 (Nat.le_of_ble_eq_true rfl) sh_o0 (fun _ => rfl) ?_
    refine k_callVv [] dX11_undo_19 s_X11_undo_110 rfl (m_undoLast rd1 h14 hz hc) rfl (Nat.le_of_ble_eq_true rfl) (Rd.o rd1) ⟨_, rfl, rfl⟩ (Nat.le_of_ble_eq_true rfl) ?_
    rintro _ rfl
    refine k_aload_n dX11_undo_22 rfl ?_
    refine k_getR dX11_undo_23 f_X11_10 (Nat.le_of_ble_eq_true rfl) sh_o0 (fun _ => rfl) ?_
    refine k_getI dX11_undo_26 f_X11_104 (Nat.le_of_ble_eq_true rfl) (Rd.o rd1) (fun _ => rfl) ?_
    exact k_iret dX11_undo_29 rfl ⟨_, rfl, by (try dsimp only); first | (rw [if_pos (by omega)]; exact ⟨rfl, rfl⟩) | (rw [if_neg (by omega)]; exact ⟨rfl, rfl⟩)⟩
  · skip
    refine k_aload_n dX11_undo_10 rfl ?_
    refine k_callVi [] dX11_undo_11 s_X11_undo_107 rfl m_refuseNo rfl (Nat.le_of_ble_eq_true rfl) sh_o0 ⟨_, rfl, rfl⟩ (Nat.le_of_ble_eq_true rfl) ?_
    rintro _ _ ⟨rfl, rfl⟩
    exact k_iret dX11_undo_14 rfl ⟨_, rfl, by (try dsimp only); first | (rw [if_pos (by omega)]; exact ⟨rfl, rfl⟩) | (rw [if_neg (by omega)]; exact ⟨rfl, rfl⟩)⟩
