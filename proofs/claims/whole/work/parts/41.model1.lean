/-! ===== the Model: helpers ===== -/
def xB (G : Mem) : Mem := ug G 90 0 (G 90 0 + 1)
def xN (G : Mem) : Mem := ug G 90 1 (G 90 1 + 1)
def xF (G : Mem) : Mem := ug G 90 2 (G 90 2 + 1)
theorem m_xIn {G : Mem} {n a b : Int} (hn : R64 n) (ha : R64 a) (hb : R64 b) : MP M_X12_in [.long (lI n), .long (lI a), .long (lI b)] G (vx (bI (a ≤ n ∧ n ≤ b)) G) := by
  refine MP.of [some (.long (lI n)), none, some (.long (lI a)), none, some (.long (lI b)), none] (plainFor_of_name pn_X12) (Nat.le_of_ble_eq_true rfl) rfl ?_
  refine k_lload_n dX12_in_0 rfl ?_
  refine k_lload_n dX12_in_1 rfl ?_
  refine k_lcmp dX12_in_2 hn ha ?_
  refine k_if_lt 17 dX12_in_3 (by decide) (by split <;> (try split) <;> decide) (fun h3 => ?_) (fun h3 => ?_)
  · skip
    refine k_iconst dX12_in_17 ?_
    exact k_zret dX12_in_18 rfl (Or.inl rfl) ⟨_, rfl, by unfold bI; first | exact if_pos ⟨by omega, by omega⟩ | exact if_neg (fun q => by omega), rfl⟩
  · skip
    refine k_lload_n dX12_in_6 rfl ?_
    refine k_lload dX12_in_7 rfl ?_
    refine k_lcmp dX12_in_9 hn hb ?_
    refine k_if_gt 17 dX12_in_10 (by decide) (by split <;> (try split) <;> decide) (fun h10 => ?_) (fun h10 => ?_)
    · skip
      refine k_iconst dX12_in_17 ?_
      exact k_zret dX12_in_18 rfl (Or.inl rfl) ⟨_, rfl, by unfold bI; first | exact if_pos ⟨by omega, by omega⟩ | exact if_neg (fun q => by omega), rfl⟩
    · skip
      refine k_iconst dX12_in_13 ?_
      refine k_goto 18 dX12_in_14 (by decide) ?_
      exact k_zret dX12_in_18 rfl (Or.inr rfl) ⟨_, rfl, by unfold bI; first | exact if_pos ⟨by omega, by omega⟩ | exact if_neg (fun q => by omega), rfl⟩
theorem m_xBad {G : Mem} {x : Int} : MP M_X12_bad [.ref 86, .int (iI x)] G (vi fun v g => x = v ∧ xB G = g) := by
  refine MP.of [some (.ref 86), some (.int (iI x))] (plainFor_of_name pn_X12) (Nat.le_of_ble_eq_true rfl) rfl ?_
  refine k_aload_n dX12_bad_0 rfl ?_
  refine k_getR dX12_bad_1 f_X12_20 (Nat.le_of_ble_eq_true rfl) sh_o86 (fun _ => rfl) ?_
  refine k_iconst dX12_bad_4 ?_
  refine k_dup2 dX12_bad_5 rfl rfl ?_
  refine k_iald (0) dX12_bad_6 (Nat.le_of_ble_eq_true rfl) sh_a90 (by decide) (by omega) (by omega) ?_
  refine k_iconst dX12_bad_7 ?_
  refine k_iadd dX12_bad_8 ?_
  refine k_iast (0) dX12_bad_9 (Nat.le_of_ble_eq_true rfl) sh_a90 (by decide) (by omega) (by omega) ?_
  refine k_iload_n dX12_bad_10 rfl ?_
  exact k_iret dX12_bad_11 rfl ⟨_, rfl, by omega, rfl⟩
theorem m_xNo {G : Mem} : MP M_X12_no [.ref 86] G (vi fun v g => -3 = v ∧ xN G = g) := by
  refine MP.of [some (.ref 86)] (plainFor_of_name pn_X12) (Nat.le_of_ble_eq_true rfl) rfl ?_
  refine k_aload_n dX12_no_0 rfl ?_
  refine k_getR dX12_no_1 f_X12_20 (Nat.le_of_ble_eq_true rfl) sh_o86 (fun _ => rfl) ?_
  refine k_iconst dX12_no_4 ?_
  refine k_dup2 dX12_no_5 rfl rfl ?_
  refine k_iald (1) dX12_no_6 (Nat.le_of_ble_eq_true rfl) sh_a90 (by decide) (by omega) (by omega) ?_
  refine k_iconst dX12_no_7 ?_
  refine k_iadd dX12_no_8 ?_
  refine k_iast (1) dX12_no_9 (Nat.le_of_ble_eq_true rfl) sh_a90 (by decide) (by omega) (by omega) ?_
  refine k_bipush dX12_no_10 (by decide) ?_
  exact k_iret dX12_no_12 rfl ⟨_, rfl, by omega, rfl⟩
theorem m_xFull {G : Mem} : MP M_X12_full [.ref 86] G (vi fun v g => -4 = v ∧ xF G = g) := by
  refine MP.of [some (.ref 86)] (plainFor_of_name pn_X12) (Nat.le_of_ble_eq_true rfl) rfl ?_
  refine k_aload_n dX12_full_0 rfl ?_
  refine k_getR dX12_full_1 f_X12_20 (Nat.le_of_ble_eq_true rfl) sh_o86 (fun _ => rfl) ?_
  refine k_iconst dX12_full_4 ?_
  refine k_dup2 dX12_full_5 rfl rfl ?_
  refine k_iald (2) dX12_full_6 (Nat.le_of_ble_eq_true rfl) sh_a90 (by decide) (by omega) (by omega) ?_
  refine k_iconst dX12_full_7 ?_
  refine k_iadd dX12_full_8 ?_
  refine k_iast (2) dX12_full_9 (Nat.le_of_ble_eq_true rfl) sh_a90 (by decide) (by omega) (by omega) ?_
  refine k_bipush dX12_full_10 (by decide) ?_
  exact k_iret dX12_full_12 rfl ⟨_, rfl, by omega, rfl⟩
theorem m_xLeast {G : Mem} {a b : Int} (ha : R32 a) (hb : R32 b) : MP M_X12_least [.int (iI a), .int (iI b)] G (vx (min a b) G) := by
  refine MP.of [some (.int (iI a)), some (.int (iI b))] (plainFor_of_name pn_X12) (Nat.le_of_ble_eq_true rfl) rfl ?_
  refine k_iload_n dX12_least_0 rfl ?_
  refine k_iload_n dX12_least_1 rfl ?_
  refine k_icmp_ge 9 dX12_least_2 (by decide) ⟨by omega, by omega⟩ ⟨by omega, by omega⟩ (fun h2 => ?_) (fun h2 => ?_)
  · skip
    refine k_iload_n dX12_least_9 rfl ?_
    exact k_iret dX12_least_10 rfl ⟨_, rfl, by first | omega | (split <;> omega), rfl⟩
  · skip
    refine k_iload_n dX12_least_5 rfl ?_
    refine k_goto 10 dX12_least_6 (by decide) ?_
    exact k_iret dX12_least_10 rfl ⟨_, rfl, by first | omega | (split <;> omega), rfl⟩
theorem m_xMost {G : Mem} {a b : Int} (ha : R32 a) (hb : R32 b) : MP M_X12_most [.int (iI a), .int (iI b)] G (vx (max a b) G) := by
  refine MP.of [some (.int (iI a)), some (.int (iI b))] (plainFor_of_name pn_X12) (Nat.le_of_ble_eq_true rfl) rfl ?_
  refine k_iload_n dX12_most_0 rfl ?_
  refine k_iload_n dX12_most_1 rfl ?_
  refine k_icmp_le 9 dX12_most_2 (by decide) ⟨by omega, by omega⟩ ⟨by omega, by omega⟩ (fun h2 => ?_) (fun h2 => ?_)
  · skip
    refine k_iload_n dX12_most_9 rfl ?_
    exact k_iret dX12_most_10 rfl ⟨_, rfl, by first | omega | (split <;> omega), rfl⟩
  · skip
    refine k_iload_n dX12_most_5 rfl ?_
    refine k_goto 10 dX12_most_6 (by decide) ?_
    exact k_iret dX12_most_10 rfl ⟨_, rfl, by first | omega | (split <;> omega), rfl⟩
theorem m_xApart {G : Mem} {a b : Int} (ha : 0 ≤ a ∧ a ≤ 47) (hb : 0 ≤ b ∧ b ≤ 47) : MP M_X12_apart [.int (iI a), .int (iI b)] G (vx (q_d a b) G) := by
  refine MP.of [some (.int (iI a)), some (.int (iI b))] (plainFor_of_name pn_X12) (Nat.le_of_ble_eq_true rfl) rfl ?_
  refine k_iload_n dX12_apart_0 rfl ?_
  refine k_iload_n dX12_apart_1 rfl ?_
  refine k_icmp_le 11 dX12_apart_2 (by decide) ⟨by omega, by omega⟩ ⟨by omega, by omega⟩ (fun h2 => ?_) (fun h2 => ?_)
  · skip
    refine k_iload_n dX12_apart_11 rfl ?_
    refine k_iload_n dX12_apart_12 rfl ?_
    refine k_isub dX12_apart_13 ?_
    exact k_iret dX12_apart_14 rfl ⟨_, rfl, by unfold q_d; split <;> omega, rfl⟩
  · skip
    refine k_iload_n dX12_apart_5 rfl ?_
    refine k_iload_n dX12_apart_6 rfl ?_
    refine k_isub dX12_apart_7 ?_
    refine k_goto 14 dX12_apart_8 (by decide) ?_
    exact k_iret dX12_apart_14 rfl ⟨_, rfl, by unfold q_d; split <;> omega, rfl⟩
theorem m_xOrNone {G : Mem} {n : Int} (hn : 0 ≤ n ∧ n ≤ 61) : MP M_X12_orNone [.int (iI n)] G (vx (if n = 61 then -1 else n) G) := by
  refine MP.of [some (.int (iI n))] (plainFor_of_name pn_X12) (Nat.le_of_ble_eq_true rfl) rfl ?_
  refine k_iload_n dX12_orNone_0 rfl ?_
  refine k_bipush dX12_orNone_1 (by decide) ?_
  refine k_icmp_ne 10 dX12_orNone_3 (by decide) ⟨by omega, by omega⟩ ⟨by decide, by decide⟩ (fun h3 => ?_) (fun h3 => ?_)
  · skip
    refine k_iload_n dX12_orNone_10 rfl ?_
    exact k_iret dX12_orNone_11 rfl ⟨_, rfl, by first | exact if_pos (by omega) | exact if_neg (by omega), rfl⟩
  · skip
    refine k_iconst dX12_orNone_6 ?_
    refine k_goto 11 dX12_orNone_7 (by decide) ?_
    exact k_iret dX12_orNone_11 rfl ⟨_, rfl, by first | exact if_pos (by omega) | exact if_neg (by omega), rfl⟩
theorem m_xisCell {G : Mem} {n : Int} (hn : R32 n) : MP M_X12_isCell [.int (iI n)] G (vx (bI (0 ≤ n ∧ n ≤ 47)) G) := by
  refine MP.of [some (.int (iI n))] (plainFor_of_name pn_X12) (Nat.le_of_ble_eq_true rfl) rfl ?_
  refine k_iload_n dX12_isCell_0 rfl ?_
  refine k_i2l dX12_isCell_1 ⟨by omega, by omega⟩ ?_
  refine k_lconst dX12_isCell_2 ?_
  refine k_ldc2 47 dX12_isCell_3 w_901 ?_
  refine k_callSi [.long (lI _), .long (lI _), .long (lI _)] dX12_isCell_6 s_X12_isCell_65 rfl (m_xIn (by first | assumption | exact ⟨by omega, by omega⟩) (by first | assumption | exact ⟨by omega, by omega⟩) (by first | assumption | exact ⟨by omega, by omega⟩)) rfl (Nat.le_of_ble_eq_true rfl) ?_
  rintro _ _ ⟨rfl, rfl⟩
  exact k_zret dX12_isCell_9 rfl (by unfold bI; split <;> omega) ⟨_, rfl, rfl, rfl⟩
theorem m_xisMinute {G : Mem} {n : Int} (hn : R32 n) : MP M_X12_isMinute [.int (iI n)] G (vx (bI (0 ≤ n ∧ n ≤ 59)) G) := by
  refine MP.of [some (.int (iI n))] (plainFor_of_name pn_X12) (Nat.le_of_ble_eq_true rfl) rfl ?_
  refine k_iload_n dX12_isMinute_0 rfl ?_
  refine k_i2l dX12_isMinute_1 ⟨by omega, by omega⟩ ?_
  refine k_lconst dX12_isMinute_2 ?_
  refine k_ldc2 59 dX12_isMinute_3 w_979 ?_
  refine k_callSi [.long (lI _), .long (lI _), .long (lI _)] dX12_isMinute_6 s_X12_isMinute_65 rfl (m_xIn (by first | assumption | exact ⟨by omega, by omega⟩) (by first | assumption | exact ⟨by omega, by omega⟩) (by first | assumption | exact ⟨by omega, by omega⟩)) rfl (Nat.le_of_ble_eq_true rfl) ?_
  rintro _ _ ⟨rfl, rfl⟩
  exact k_zret dX12_isMinute_9 rfl (by unfold bI; split <;> omega) ⟨_, rfl, rfl, rfl⟩
theorem m_xChildren {G : Mem} : MP M_X12_children [.ref 86] G (vx (G 87 0) G) := by
  refine MP.of [some (.ref 86)] (plainFor_of_name pn_X12) (Nat.le_of_ble_eq_true rfl) rfl ?_
  refine k_aload_n dX12_children_0 rfl ?_
  refine k_getR dX12_children_1 f_X12_7 (Nat.le_of_ble_eq_true rfl) sh_o86 (fun _ => rfl) ?_
  refine k_iconst dX12_children_4 ?_
  refine k_iald (0) dX12_children_5 (Nat.le_of_ble_eq_true rfl) sh_a87 (by decide) (by omega) (by omega) ?_
  exact k_iret dX12_children_6 rfl ⟨_, rfl, by omega, rfl⟩
theorem m_xIsChild {G : Mem} (h2 : 0 ≤ G 87 0 ∧ G 87 0 ≤ 6) {n : Int} (hn : R32 n) : MP M_X12_isChild [.ref 86, .int (iI n)] G (vx (bI (0 ≤ n ∧ n ≤ G 87 0 - 1)) G) := by
  refine MP.of [some (.ref 86), some (.int (iI n))] (plainFor_of_name pn_X12) (Nat.le_of_ble_eq_true rfl) rfl ?_
  refine k_iload_n dX12_isChild_0 rfl ?_
  refine k_i2l dX12_isChild_1 ⟨by omega, by omega⟩ ?_
  refine k_lconst dX12_isChild_2 ?_
  refine k_aload_n dX12_isChild_3 rfl ?_
  refine k_callVi [] dX12_isChild_4 s_X12_isChild_61 rfl m_xChildren rfl (Nat.le_of_ble_eq_true rfl) sh_o86 ⟨_, rfl, rfl⟩ (Nat.le_of_ble_eq_true rfl) ?_
  rintro _ _ ⟨rfl, rfl⟩
  refine k_iconst dX12_isChild_7 ?_
  refine k_isub dX12_isChild_8 ?_
  refine k_i2l dX12_isChild_9 ⟨by omega, by omega⟩ ?_
  refine k_callSi [.long (lI _), .long (lI _), .long (lI _)] dX12_isChild_10 s_X12_isChild_65 rfl (m_xIn (by first | assumption | exact ⟨by omega, by omega⟩) (by first | assumption | exact ⟨by omega, by omega⟩) (by first | assumption | exact ⟨by omega, by omega⟩)) rfl (Nat.le_of_ble_eq_true rfl) ?_
  rintro _ _ ⟨rfl, rfl⟩
  exact k_zret dX12_isChild_13 rfl (by unfold bI; split <;> omega) ⟨_, rfl, rfl, rfl⟩
theorem m_xAll {G : Mem} (h2 : 0 ≤ G 87 0 ∧ G 87 0 ≤ 6) : MP M_X12_all [.ref 86] G (vx (((2 ^ (G 87 0).toNat - 1 : Nat) : Int)) G) := by
  refine MP.of [some (.ref 86)] (plainFor_of_name pn_X12) (Nat.le_of_ble_eq_true rfl) rfl ?_
  refine k_iconst dX12_all_0 ?_
  refine k_aload_n dX12_all_1 rfl ?_
  refine k_callVi [] dX12_all_2 s_X12_all_61 rfl m_xChildren rfl (Nat.le_of_ble_eq_true rfl) sh_o86 ⟨_, rfl, rfl⟩ (Nat.le_of_ble_eq_true rfl) ?_
  rintro _ _ ⟨rfl, rfl⟩
  refine k_ishl (G 87 0).toNat dX12_all_5 (by omega) (by omega) ?_
  refine k_iconst dX12_all_6 ?_
  refine k_isub dX12_all_7 ?_
  exact k_iret dX12_all_8 rfl ⟨_, rfl, by have := Nat.two_pow_pos (G 87 0).toNat; omega, rfl⟩
theorem m_xGet0 {G : Mem} {c : Nat} (hc : c < 6) : MP M_X12_get [.ref 86, .int (iI (c : Int)), .int (iI 0)] G (vx (G 87 (6 + 5 * c + 0)) G) := by
  refine MP.of [some (.ref 86), some (.int (iI (c : Int))), some (.int (iI 0))] (plainFor_of_name pn_X12) (Nat.le_of_ble_eq_true rfl) rfl ?_
  refine k_aload_n dX12_get_0 rfl ?_
  refine k_getR dX12_get_1 f_X12_7 (Nat.le_of_ble_eq_true rfl) sh_o86 (fun _ => rfl) ?_
  refine k_bipush dX12_get_4 (by decide) ?_
  refine k_iconst dX12_get_6 ?_
  refine k_iload_n dX12_get_7 rfl ?_
  refine k_imul dX12_get_8 ?_
  refine k_iadd dX12_get_9 ?_
  refine k_iload_n dX12_get_10 rfl ?_
  refine k_iadd dX12_get_11 ?_
  refine k_iald (6 + 5 * c + 0) dX12_get_12 (Nat.le_of_ble_eq_true rfl) sh_a87 (by decide) (by omega) (by omega) ?_
  exact k_iret dX12_get_13 rfl ⟨_, rfl, by omega, rfl⟩
theorem m_xGet1 {G : Mem} {c : Nat} (hc : c < 6) : MP M_X12_get [.ref 86, .int (iI (c : Int)), .int (iI 1)] G (vx (G 87 (6 + 5 * c + 1)) G) := by
  refine MP.of [some (.ref 86), some (.int (iI (c : Int))), some (.int (iI 1))] (plainFor_of_name pn_X12) (Nat.le_of_ble_eq_true rfl) rfl ?_
  refine k_aload_n dX12_get_0 rfl ?_
  refine k_getR dX12_get_1 f_X12_7 (Nat.le_of_ble_eq_true rfl) sh_o86 (fun _ => rfl) ?_
  refine k_bipush dX12_get_4 (by decide) ?_
  refine k_iconst dX12_get_6 ?_
  refine k_iload_n dX12_get_7 rfl ?_
  refine k_imul dX12_get_8 ?_
  refine k_iadd dX12_get_9 ?_
  refine k_iload_n dX12_get_10 rfl ?_
  refine k_iadd dX12_get_11 ?_
  refine k_iald (6 + 5 * c + 1) dX12_get_12 (Nat.le_of_ble_eq_true rfl) sh_a87 (by decide) (by omega) (by omega) ?_
  exact k_iret dX12_get_13 rfl ⟨_, rfl, by omega, rfl⟩
theorem m_xGet2 {G : Mem} {c : Nat} (hc : c < 6) : MP M_X12_get [.ref 86, .int (iI (c : Int)), .int (iI 2)] G (vx (G 87 (6 + 5 * c + 2)) G) := by
  refine MP.of [some (.ref 86), some (.int (iI (c : Int))), some (.int (iI 2))] (plainFor_of_name pn_X12) (Nat.le_of_ble_eq_true rfl) rfl ?_
  refine k_aload_n dX12_get_0 rfl ?_
  refine k_getR dX12_get_1 f_X12_7 (Nat.le_of_ble_eq_true rfl) sh_o86 (fun _ => rfl) ?_
  refine k_bipush dX12_get_4 (by decide) ?_
  refine k_iconst dX12_get_6 ?_
  refine k_iload_n dX12_get_7 rfl ?_
  refine k_imul dX12_get_8 ?_
  refine k_iadd dX12_get_9 ?_
  refine k_iload_n dX12_get_10 rfl ?_
  refine k_iadd dX12_get_11 ?_
  refine k_iald (6 + 5 * c + 2) dX12_get_12 (Nat.le_of_ble_eq_true rfl) sh_a87 (by decide) (by omega) (by omega) ?_
  exact k_iret dX12_get_13 rfl ⟨_, rfl, by omega, rfl⟩
theorem m_xGet3 {G : Mem} {c : Nat} (hc : c < 6) : MP M_X12_get [.ref 86, .int (iI (c : Int)), .int (iI 3)] G (vx (G 87 (6 + 5 * c + 3)) G) := by
  refine MP.of [some (.ref 86), some (.int (iI (c : Int))), some (.int (iI 3))] (plainFor_of_name pn_X12) (Nat.le_of_ble_eq_true rfl) rfl ?_
  refine k_aload_n dX12_get_0 rfl ?_
  refine k_getR dX12_get_1 f_X12_7 (Nat.le_of_ble_eq_true rfl) sh_o86 (fun _ => rfl) ?_
  refine k_bipush dX12_get_4 (by decide) ?_
  refine k_iconst dX12_get_6 ?_
  refine k_iload_n dX12_get_7 rfl ?_
  refine k_imul dX12_get_8 ?_
  refine k_iadd dX12_get_9 ?_
  refine k_iload_n dX12_get_10 rfl ?_
  refine k_iadd dX12_get_11 ?_
  refine k_iald (6 + 5 * c + 3) dX12_get_12 (Nat.le_of_ble_eq_true rfl) sh_a87 (by decide) (by omega) (by omega) ?_
  exact k_iret dX12_get_13 rfl ⟨_, rfl, by omega, rfl⟩
theorem m_xGet4 {G : Mem} {c : Nat} (hc : c < 6) : MP M_X12_get [.ref 86, .int (iI (c : Int)), .int (iI 4)] G (vx (G 87 (6 + 5 * c + 4)) G) := by
  refine MP.of [some (.ref 86), some (.int (iI (c : Int))), some (.int (iI 4))] (plainFor_of_name pn_X12) (Nat.le_of_ble_eq_true rfl) rfl ?_
  refine k_aload_n dX12_get_0 rfl ?_
  refine k_getR dX12_get_1 f_X12_7 (Nat.le_of_ble_eq_true rfl) sh_o86 (fun _ => rfl) ?_
  refine k_bipush dX12_get_4 (by decide) ?_
  refine k_iconst dX12_get_6 ?_
  refine k_iload_n dX12_get_7 rfl ?_
  refine k_imul dX12_get_8 ?_
  refine k_iadd dX12_get_9 ?_
  refine k_iload_n dX12_get_10 rfl ?_
  refine k_iadd dX12_get_11 ?_
  refine k_iald (6 + 5 * c + 4) dX12_get_12 (Nat.le_of_ble_eq_true rfl) sh_a87 (by decide) (by omega) (by omega) ?_
  exact k_iret dX12_get_13 rfl ⟨_, rfl, by omega, rfl⟩
theorem q_pc_s : ∀ s : Nat, s < 64 → q_pc s = s % 2 + q_pc (s / 2) := by decide +kernel
theorem q_pc_6 : ∀ s : Nat, s < 64 → q_pc s ≤ 6 := by decide +kernel
theorem lp_bits {G : Mem} {s0 m : Int} (hm9 : m ≤ 100) : ∀ (d : Nat) (s : Nat) (n : Int), s < d → s < 64 → n + (q_pc s : Int) = m → 0 ≤ n → RP M_X12_bits 4 [some (.int (iI s0)), some (.int (iI n)), some (.int (iI (s : Int)))] [] G (vx m G) := by
  intro d
  induction d with
  | zero =>
    intro s n h
    exact absurd h (by omega)
  | succ d ih =>
    intro s n h hs hm hn
    have e := q_pc_s s hs
    have e2 := q_pc_6 s hs
    refine k_iload_n dX12_bits_4 rfl ?_
    refine k_if_le 21 dX12_bits_5 (by decide) ⟨by omega, by omega⟩ (fun h5 => ?_) (fun h5 => ?_)
    · skip
      refine k_iload_n dX12_bits_21 rfl ?_
      exact k_iret dX12_bits_22 rfl ⟨_, rfl, by rw [show s = 0 by omega] at hm; change n + (0 : Int) = m at hm; omega, rfl⟩
    · skip
      refine k_iload_n dX12_bits_8 rfl ?_
      refine k_iload_n dX12_bits_9 rfl ?_
      refine k_iconst dX12_bits_10 ?_
      refine k_iand1 _ dX12_bits_11 rfl ?_
      refine k_iadd dX12_bits_12 ?_
      refine k_istore_n (L' := [_, _, _]) dX12_bits_13 (Nat.le_of_ble_eq_true rfl) rfl ?_
      refine k_iload_n dX12_bits_14 rfl ?_
      refine k_iconst dX12_bits_15 ?_
      refine k_ishr s 1 dX12_bits_16 rfl rfl hs (by decide) ?_
      refine k_istore_n (L' := [_, _, _]) dX12_bits_17 (Nat.le_of_ble_eq_true rfl) rfl ?_
      refine k_goto 4 dX12_bits_18 (by decide) ?_
      exact ih (s / 2 ^ 1) _ (by omega) (by omega) (by rw [show s / 2 ^ 1 = s / 2 by omega]; omega) (by omega)
theorem m_xBits {G : Mem} {s : Nat} (hs : s < 64) : MP M_X12_bits [.int (iI (s : Int))] G (vx (q_pc s : Int) G) := by
  refine MP.of [some (.int (iI (s : Int))), none, none] (plainFor_of_name pn_X12) (Nat.le_of_ble_eq_true rfl) rfl ?_
  refine k_iconst dX12_bits_0 ?_
  refine k_istore_n (L' := [_, _, _]) dX12_bits_1 (Nat.le_of_ble_eq_true rfl) rfl ?_
  refine k_iload_n dX12_bits_2 rfl ?_
  refine k_istore_n (L' := [_, _, _]) dX12_bits_3 (Nat.le_of_ble_eq_true rfl) rfl ?_
  exact lp_bits (by have := q_pc_6 s hs; omega) (s + 1) s 0 (by omega) hs (by omega) (by omega)
