theorem m_min {G : Mem} {a b : Int} (ha : R32 a) (hb : R32 b) : MP M_J9_min_7cf53 [.int (iI a), .int (iI b)] G (vx (min a b) G) := by
  refine MP.of [some (.int (iI a)), some (.int (iI b))] pf_J9_min_7cf53 (Nat.le_of_ble_eq_true rfl) rfl ?_
  refine k_iload_n dJ9_min_7cf53_0 rfl ?_
  refine k_iload_n dJ9_min_7cf53_1 rfl ?_
  refine k_icmp_gt 9 dJ9_min_7cf53_2 (by decide) ⟨by omega, by omega⟩ ⟨by omega, by omega⟩ (fun h2 => ?_) (fun h2 => ?_)
  · skip
    refine k_iload_n dJ9_min_7cf53_9 rfl ?_
    exact k_iret dJ9_min_7cf53_10 rfl ⟨_, rfl, by omega, rfl⟩
  · skip
    refine k_iload_n dJ9_min_7cf53_5 rfl ?_
    refine k_goto 10 dJ9_min_7cf53_6 (by decide) ?_
    exact k_iret dJ9_min_7cf53_10 rfl ⟨_, rfl, by omega, rfl⟩
theorem m_max {G : Mem} {a b : Int} (ha : R32 a) (hb : R32 b) : MP M_J9_max_7cf53 [.int (iI a), .int (iI b)] G (vx (max a b) G) := by
  refine MP.of [some (.int (iI a)), some (.int (iI b))] pf_J9_max_7cf53 (Nat.le_of_ble_eq_true rfl) rfl ?_
  refine k_iload_n dJ9_max_7cf53_0 rfl ?_
  refine k_iload_n dJ9_max_7cf53_1 rfl ?_
  refine k_icmp_lt 9 dJ9_max_7cf53_2 (by decide) ⟨by omega, by omega⟩ ⟨by omega, by omega⟩ (fun h2 => ?_) (fun h2 => ?_)
  · skip
    refine k_iload_n dJ9_max_7cf53_9 rfl ?_
    exact k_iret dJ9_max_7cf53_10 rfl ⟨_, rfl, by omega, rfl⟩
  · skip
    refine k_iload_n dJ9_max_7cf53_5 rfl ?_
    refine k_goto 10 dJ9_max_7cf53_6 (by decide) ?_
    exact k_iret dJ9_max_7cf53_10 rfl ⟨_, rfl, by omega, rfl⟩
theorem m_abs {G : Mem} {a : Int} (ha : R32 a) : MP M_J9_abs_0f7a4 [.int (iI a)] G (vx ((if 0 ≤ a then a else -a)) G) := by
  refine MP.of [some (.int (iI a))] pf_J9_abs_0f7a4 (Nat.le_of_ble_eq_true rfl) rfl ?_
  refine k_iload_n dJ9_abs_0f7a4_0 rfl ?_
  refine k_if_ge 9 dJ9_abs_0f7a4_1 (by decide) ⟨by omega, by omega⟩ (fun h1 => ?_) (fun h1 => ?_)
  · skip
    refine k_iload_n dJ9_abs_0f7a4_9 rfl ?_
    exact k_iret dJ9_abs_0f7a4_10 rfl ⟨_, rfl, by split <;> omega, rfl⟩
  · skip
    refine k_iload_n dJ9_abs_0f7a4_4 rfl ?_
    refine k_ineg dJ9_abs_0f7a4_5 ?_
    refine k_goto 10 dJ9_abs_0f7a4_6 (by decide) ?_
    exact k_iret dJ9_abs_0f7a4_10 rfl ⟨_, rfl, by split <;> omega, rfl⟩
theorem m_walkerCell {G : Mem} {w ci : Nat} (hw : w < 101) (hsw : ∀ g, sh w g = .inr (ci, fs0 g)) {c s t : Int} (hc : 0 ≤ c ∧ c ≤ 47) (hs : 0 ≤ s ∧ s ≤ 3) (ht : 0 ≤ t ∧ t ≤ 60) : MP M_X10_cellIn [.ref w, .int (iI c), .int (iI s), .int (iI t)] G (vx (min 47 (c + s * t)) G) := by
  have hst := mulb hs ht
  refine MP.of [some (.ref w), some (.int (iI c)), some (.int (iI s)), some (.int (iI t))] (plainFor_of_name pn_X10) (Nat.le_of_ble_eq_true rfl) rfl ?_
  refine k_bipush dX10_cellIn_0 (by decide) ?_
  refine k_iload_n dX10_cellIn_2 rfl ?_
  refine k_iload_n dX10_cellIn_3 rfl ?_
  refine k_iload_n dX10_cellIn_4 rfl ?_
  refine k_imul dX10_cellIn_5 ?_
  refine k_iadd dX10_cellIn_6 ?_
  refine k_callSi [.int (iI _), .int (iI _)] dX10_cellIn_7 s_X10_cellIn_9 rfl (m_min ⟨by omega, by omega⟩ ⟨by omega, by omega⟩) rfl (Nat.le_of_ble_eq_true rfl) ?_
  rintro _ _ ⟨rfl, rfl⟩
  exact k_iret dX10_cellIn_10 rfl ⟨_, rfl, by omega, rfl⟩
theorem m_playerCell {G : Mem} {w ci : Nat} (hw : w < 101) (hsw : ∀ g, sh w g = .inr (ci, fs0 g)) {c s t : Int} (hc : 0 ≤ c ∧ c ≤ 47) (hs : 0 ≤ s ∧ s ≤ 3) (ht : 0 ≤ t ∧ t ≤ 60) : MP M_X5_cellIn [.ref w, .int (iI c), .int (iI s), .int (iI t)] G (vx ((if t % 2 = 0 then c else min 47 (c + s))) G) := by
  refine MP.of [some (.ref w), some (.int (iI c)), some (.int (iI s)), some (.int (iI t))] (plainFor_of_name pn_X5) (Nat.le_of_ble_eq_true rfl) rfl ?_
  refine k_iload_n dX5_cellIn_0 rfl ?_
  refine k_iconst dX5_cellIn_1 ?_
  refine k_irem dX5_cellIn_2 (by omega) (by omega) ?_
  refine k_if_ne 10 dX5_cellIn_3 (by decide) ⟨by omega, by omega⟩ (fun h3 => ?_) (fun h3 => ?_)
  · skip
    refine k_bipush dX5_cellIn_10 (by decide) ?_
    refine k_iload_n dX5_cellIn_12 rfl ?_
    refine k_iload_n dX5_cellIn_13 rfl ?_
    refine k_iadd dX5_cellIn_14 ?_
    refine k_callSi [.int (iI _), .int (iI _)] dX5_cellIn_15 s_X5_cellIn_9 rfl (m_min ⟨by omega, by omega⟩ ⟨by omega, by omega⟩) rfl (Nat.le_of_ble_eq_true rfl) ?_
    rintro _ _ ⟨rfl, rfl⟩
    exact k_iret dX5_cellIn_18 rfl ⟨_, rfl, by split <;> omega, rfl⟩
  · skip
    refine k_iload_n dX5_cellIn_6 rfl ?_
    refine k_goto 18 dX5_cellIn_7 (by decide) ?_
    exact k_iret dX5_cellIn_18 rfl ⟨_, rfl, by split <;> omega, rfl⟩
theorem m_walkerHigh {G : Mem} {w ci : Nat} (hw : w < 101) (hsw : ∀ g, sh w g = .inr (ci, fs0 g)) {h t : Int} : MP M_X10_highIn [.ref w, .int (iI h), .int (iI t)] G (vx (h) G) := by
  refine MP.of [some (.ref w), some (.int (iI h)), some (.int (iI t))] (plainFor_of_name pn_X10) (Nat.le_of_ble_eq_true rfl) rfl ?_
  refine k_iload_n dX10_highIn_0 rfl ?_
  exact k_iret dX10_highIn_1 rfl ⟨_, rfl, by omega, rfl⟩
theorem m_heldHigh {G : Mem} {w ci : Nat} (hw : w < 101) (hsw : ∀ g, sh w g = .inr (ci, fs0 g)) (hci : ∃ q, vwCl[ci]? = some q) {h t : Int} (hh : 0 ≤ h ∧ h ≤ 9) : MP M_X3_highIn [.ref w, .int (iI h), .int (iI t)] G (vx (min 9 (h + 2)) G) := by
  refine MP.of [some (.ref w), some (.int (iI h)), some (.int (iI t))] (plainFor_of_name pn_X3) (Nat.le_of_ble_eq_true rfl) rfl ?_
  refine k_bipush dX3_highIn_0 (by decide) ?_
  refine k_aload_n dX3_highIn_2 rfl ?_
  refine k_iload_n dX3_highIn_3 rfl ?_
  refine k_iload_n dX3_highIn_4 rfl ?_
  refine k_callSUi [.int (iI _), .int (iI _)] dX3_highIn_5 s_X3_highIn_9 rfl (m_walkerHigh hw hsw) rfl hw hsw hci (Nat.le_of_ble_eq_true rfl) ?_
  rintro _ _ ⟨rfl, rfl⟩
  refine k_iconst dX3_highIn_8 ?_
  refine k_iadd dX3_highIn_9 ?_
  refine k_callSi [.int (iI _), .int (iI _)] dX3_highIn_10 s_X3_highIn_13 rfl (m_min ⟨by omega, by omega⟩ ⟨by omega, by omega⟩) rfl (Nat.le_of_ble_eq_true rfl) ?_
  rintro _ _ ⟨rfl, rfl⟩
  exact k_iret dX3_highIn_13 rfl ⟨_, rfl, by omega, rfl⟩
theorem m_twinHigh {G : Mem} {w ci : Nat} (hw : w < 101) (hsw : ∀ g, sh w g = .inr (ci, fs0 g)) (hci : ∃ q, vwCl[ci]? = some q) {h t : Int} (hh : 0 ≤ h ∧ h ≤ 9) : MP M_X9_highIn [.ref w, .int (iI h), .int (iI t)] G (vx (max 1 (min 9 (h + 2) / 2)) G) := by
  refine MP.of [some (.ref w), some (.int (iI h)), some (.int (iI t))] (plainFor_of_name pn_X9) (Nat.le_of_ble_eq_true rfl) rfl ?_
  refine k_iconst dX9_highIn_0 ?_
  refine k_aload_n dX9_highIn_1 rfl ?_
  refine k_iload_n dX9_highIn_2 rfl ?_
  refine k_iload_n dX9_highIn_3 rfl ?_
  refine k_callSUi [.int (iI _), .int (iI _)] dX9_highIn_4 s_X9_highIn_7 rfl (m_heldHigh hw hsw hci hh) rfl hw hsw hci (Nat.le_of_ble_eq_true rfl) ?_
  rintro _ _ ⟨rfl, rfl⟩
  refine k_iconst dX9_highIn_7 ?_
  refine k_idiv dX9_highIn_8 (by omega) (by omega) ?_
  refine k_callSi [.int (iI _), .int (iI _)] dX9_highIn_9 s_X9_highIn_11 rfl (m_max ⟨by omega, by omega⟩ ⟨by omega, by omega⟩) rfl (Nat.le_of_ble_eq_true rfl) ?_
  rintro _ _ ⟨rfl, rfl⟩
  exact k_iret dX9_highIn_12 rfl ⟨_, rfl, by omega, rfl⟩
theorem m_growsHigh {G : Mem} {w ci : Nat} (hw : w < 101) (hsw : ∀ g, sh w g = .inr (ci, fs0 g)) (hci : ∃ q, vwCl[ci]? = some q) {h t : Int} (hh : 0 ≤ h ∧ h ≤ 9) (ht : 0 ≤ t ∧ t ≤ 60) : MP M_X2_highIn [.ref w, .int (iI h), .int (iI t)] G (vx (min 9 (h + t / 15)) G) := by
  refine MP.of [some (.ref w), some (.int (iI h)), some (.int (iI t))] (plainFor_of_name pn_X2) (Nat.le_of_ble_eq_true rfl) rfl ?_
  refine k_bipush dX2_highIn_0 (by decide) ?_
  refine k_aload_n dX2_highIn_2 rfl ?_
  refine k_iload_n dX2_highIn_3 rfl ?_
  refine k_iload_n dX2_highIn_4 rfl ?_
  refine k_callSUi [.int (iI _), .int (iI _)] dX2_highIn_5 s_X2_highIn_9 rfl (m_walkerHigh hw hsw) rfl hw hsw hci (Nat.le_of_ble_eq_true rfl) ?_
  rintro _ _ ⟨rfl, rfl⟩
  refine k_iload_n dX2_highIn_8 rfl ?_
  refine k_bipush dX2_highIn_9 (by decide) ?_
  refine k_idiv dX2_highIn_11 (by omega) (by omega) ?_
  refine k_iadd dX2_highIn_12 ?_
  refine k_callSi [.int (iI _), .int (iI _)] dX2_highIn_13 s_X2_highIn_13 rfl (m_min ⟨by omega, by omega⟩ ⟨by omega, by omega⟩) rfl (Nat.le_of_ble_eq_true rfl) ?_
  rintro _ _ ⟨rfl, rfl⟩
  exact k_iret dX2_highIn_16 rfl ⟨_, rfl, by omega, rfl⟩
theorem m_dollHigh {G : Mem} {w ci : Nat} (hw : w < 101) (hsw : ∀ g, sh w g = .inr (ci, fs0 g)) (hci : ∃ q, vwCl[ci]? = some q) {h t : Int} (hh : 0 ≤ h ∧ h ≤ 9) (ht : 0 ≤ t ∧ t ≤ 60) : MP M_X0_highIn [.ref w, .int (iI h), .int (iI t)] G (vx ((if t < 20 then h else 0)) G) := by
  refine MP.of [some (.ref w), some (.int (iI h)), some (.int (iI t))] (plainFor_of_name pn_X0) (Nat.le_of_ble_eq_true rfl) rfl ?_
  refine k_iload_n dX0_highIn_0 rfl ?_
  refine k_bipush dX0_highIn_1 (by decide) ?_
  refine k_icmp_ge 15 dX0_highIn_3 (by decide) ⟨by omega, by omega⟩ ⟨by decide, by decide⟩ (fun h3 => ?_) (fun h3 => ?_)
  · skip
    refine k_iconst dX0_highIn_15 ?_
    exact k_iret dX0_highIn_16 rfl ⟨_, rfl, by split <;> omega, rfl⟩
  · skip
    refine k_aload_n dX0_highIn_6 rfl ?_
    refine k_iload_n dX0_highIn_7 rfl ?_
    refine k_iload_n dX0_highIn_8 rfl ?_
    refine k_callSXi [.int (iI _), .int (iI _)] dX0_highIn_9 s_X0_highIn_7 rfl (m_walkerHigh hw hsw) rfl hw hsw hci (Nat.le_of_ble_eq_true rfl) ?_
    rintro _ _ ⟨rfl, rfl⟩
    refine k_goto 16 dX0_highIn_12 (by decide) ?_
    exact k_iret dX0_highIn_16 rfl ⟨_, rfl, by split <;> omega, rfl⟩
theorem m_kindOf {G : Mem} {l : Nat} (hl : Lm l) {k : Int} (hk : 0 ≤ k ∧ k ≤ 5) : MP M_X4_kindOf [.ref l, .int (iI k)] G (vr fun a g => l + (if k = 1 then 2 else if k = 2 then 3 else if k = 3 then 4 else if k = 4 then 5 else if k = 5 then 6 else 1) = a ∧ G = g) := by
  refine MP.of [some (.ref l), some (.int (iI k))] (plainFor_of_name pn_X4) (Nat.le_of_ble_eq_true rfl) rfl ?_
  refine k_iload_n dX4_kindOf_0 rfl ?_
  rcases (show k = 0 ∨ k = 1 ∨ k = 2 ∨ k = 3 ∨ k = 4 ∨ k = 5 from by omega) with hts | hts | hts | hts | hts | hts
  · skip
    refine k_tsOut 61 dX4_kindOf_1 ⟨by omega, by omega⟩ (by omega) (by decide) ?_
    refine k_aload_n dX4_kindOf_61 rfl ?_
    refine k_getR dX4_kindOf_62 f_X4_12 (Lm.l0 hl) (Lm.o hl) (fun _ => rfl) ?_
    exact k_aret dX4_kindOf_65 rfl ⟨_, rfl, by simp [hts], rfl⟩
  · skip
    refine k_tsIn 36 dX4_kindOf_1 1 hts ⟨by decide, by decide⟩ ⟨by decide, by decide⟩ (off := 35) rfl (by decide) ?_
    refine k_aload_n dX4_kindOf_36 rfl ?_
    refine k_getR dX4_kindOf_37 f_X4_21 (Lm.l0 hl) (Lm.o hl) (fun _ => rfl) ?_
    exact k_aret dX4_kindOf_40 rfl ⟨_, rfl, by simp [hts], rfl⟩
  · skip
    refine k_tsIn 41 dX4_kindOf_1 2 hts ⟨by decide, by decide⟩ ⟨by decide, by decide⟩ (off := 40) rfl (by decide) ?_
    refine k_aload_n dX4_kindOf_41 rfl ?_
    refine k_getR dX4_kindOf_42 f_X4_27 (Lm.l0 hl) (Lm.o hl) (fun _ => rfl) ?_
    exact k_aret dX4_kindOf_45 rfl ⟨_, rfl, by simp [hts], rfl⟩
  · skip
    refine k_tsIn 46 dX4_kindOf_1 3 hts ⟨by decide, by decide⟩ ⟨by decide, by decide⟩ (off := 45) rfl (by decide) ?_
    refine k_aload_n dX4_kindOf_46 rfl ?_
    refine k_getR dX4_kindOf_47 f_X4_33 (Lm.l0 hl) (Lm.o hl) (fun _ => rfl) ?_
    exact k_aret dX4_kindOf_50 rfl ⟨_, rfl, by simp [hts], rfl⟩
  · skip
    refine k_tsIn 51 dX4_kindOf_1 4 hts ⟨by decide, by decide⟩ ⟨by decide, by decide⟩ (off := 50) rfl (by decide) ?_
    refine k_aload_n dX4_kindOf_51 rfl ?_
    refine k_getR dX4_kindOf_52 f_X4_39 (Lm.l0 hl) (Lm.o hl) (fun _ => rfl) ?_
    exact k_aret dX4_kindOf_55 rfl ⟨_, rfl, by simp [hts], rfl⟩
  · skip
    refine k_tsIn 56 dX4_kindOf_1 5 hts ⟨by decide, by decide⟩ ⟨by decide, by decide⟩ (off := 55) rfl (by decide) ?_
    refine k_aload_n dX4_kindOf_56 rfl ?_
    refine k_getR dX4_kindOf_57 f_X4_45 (Lm.l0 hl) (Lm.o hl) (fun _ => rfl) ?_
    exact k_aret dX4_kindOf_60 rfl ⟨_, rfl, by simp [hts], rfl⟩
theorem m_highByRank {G : Mem} {a : Int} (ha : 0 ≤ a ∧ a < 2000000) : MP M_X4_highByRank [.int (iI a)] G (vx (a / 8 % 16) G) := by
  refine MP.of [some (.int (iI a))] (plainFor_of_name pn_X4) (Nat.le_of_ble_eq_true rfl) rfl ?_
  refine k_iload_n dX4_highByRank_0 rfl ?_
  refine k_bipush dX4_highByRank_1 (by decide) ?_
  refine k_idiv dX4_highByRank_3 (by omega) (by omega) ?_
  refine k_bipush dX4_highByRank_4 (by decide) ?_
  refine k_irem dX4_highByRank_6 (by omega) (by omega) ?_
  exact k_iret dX4_highByRank_7 rfl ⟨_, rfl, by omega, rfl⟩
theorem m_isSeen {G : Mem} {l r : Nat} (hl : Lm l) (hr : Rd r) (hb : q_ok (G (l + 7)) (G (l + 8))) (hsg : 0 ≤ G r 0 ∧ G r 0 ≤ 47) {set : Nat} (hset : set < 64) {x : Int} (hx : 0 ≤ x ∧ x ≤ 47) {i : Nat} (hi : i < 6) : MP M_X4_isSeen [.ref l, .ref r, .int (iI (set : Int)), .int (iI x), .int (iI (i : Int))] G (vx (bI (q_seen (G r 0) (G (l + 7)) (G (l + 8)) set x i = true)) G) := by
  have b := hb i
  refine MP.of [some (.ref l), some (.ref r), some (.int (iI (set : Int))), some (.int (iI x)), some (.int (iI (i : Int)))] (plainFor_of_name pn_X4) (Nat.le_of_ble_eq_true rfl) rfl ?_
  refine k_iload_n dX4_isSeen_0 rfl ?_
  refine k_iload dX4_isSeen_1 rfl ?_
  refine k_ishr set i dX4_isSeen_3 rfl rfl hset (by omega) ?_
  refine k_iconst dX4_isSeen_4 ?_
  refine k_iand1 _ dX4_isSeen_5 rfl ?_
  refine k_if_eq 42 dX4_isSeen_6 (by decide) ⟨by omega, by omega⟩ (fun h6 => ?_) (fun h6 => ?_)
  · skip
    refine k_iconst dX4_isSeen_42 ?_
    exact k_zret dX4_isSeen_43 rfl (Or.inl rfl) ⟨_, rfl, by first | (refine bI_t (q_seen_iff.mpr ⟨?_, ?_, ?_⟩) <;> (try unfold q_d) <;> omega) | (refine bI_f (fun q => ?_); obtain ⟨q1, q2, q3⟩ := q_seen_iff.mp q; unfold q_d at q3; omega), rfl⟩
  · skip
    refine k_aload_n dX4_isSeen_9 rfl ?_
    refine k_getR dX4_isSeen_10 f_X4_52 (Lm.l0 hl) (Lm.o hl) (fun _ => rfl) ?_
    refine k_iload dX4_isSeen_13 rfl ?_
    refine k_iald i dX4_isSeen_15 (Lm.l8 hl) (Lm.a8 hl) (by decide) (by omega) (by omega) ?_
    refine k_if_le 42 dX4_isSeen_16 (by decide) ⟨by omega, by omega⟩ (fun h16 => ?_) (fun h16 => ?_)
    · skip
      refine k_iconst dX4_isSeen_42 ?_
      exact k_zret dX4_isSeen_43 rfl (Or.inl rfl) ⟨_, rfl, by first | (refine bI_t (q_seen_iff.mpr ⟨?_, ?_, ?_⟩) <;> (try unfold q_d) <;> omega) | (refine bI_f (fun q => ?_); obtain ⟨q1, q2, q3⟩ := q_seen_iff.mp q; unfold q_d at q3; omega), rfl⟩
    · skip
      refine k_aload_n dX4_isSeen_19 rfl ?_
      refine k_getR dX4_isSeen_20 f_X4_48 (Lm.l0 hl) (Lm.o hl) (fun _ => rfl) ?_
      refine k_iload dX4_isSeen_23 rfl ?_
      refine k_iald i dX4_isSeen_25 (Lm.l7 hl) (Lm.a7 hl) (by decide) (by omega) (by omega) ?_
      refine k_iload_n dX4_isSeen_26 rfl ?_
      refine k_isub dX4_isSeen_27 ?_
      refine k_callSi [.int (iI _)] dX4_isSeen_28 s_X4_isSeen_112 rfl (m_abs ⟨by omega, by omega⟩) rfl (Nat.le_of_ble_eq_true rfl) ?_
      rintro _ _ ⟨rfl, rfl⟩
      refine k_aload_n dX4_isSeen_31 rfl ?_
      refine k_getI dX4_isSeen_32 f_X4_120 (Rd.l0 hr) (Rd.o hr) (fun _ => rfl) ?_
      refine k_icmp_gt 42 dX4_isSeen_35 (by decide) ⟨by omega, by omega⟩ ⟨by omega, by omega⟩ (fun h35 => ?_) (fun h35 => ?_)
      · skip
        refine k_iconst dX4_isSeen_42 ?_
        exact k_zret dX4_isSeen_43 rfl (Or.inl rfl) ⟨_, rfl, by first | (refine bI_t (q_seen_iff.mpr ⟨?_, ?_, ?_⟩) <;> (try unfold q_d) <;> omega) | (refine bI_f (fun q => ?_); obtain ⟨q1, q2, q3⟩ := q_seen_iff.mp q; unfold q_d at q3; omega), rfl⟩
      · skip
        refine k_iconst dX4_isSeen_38 ?_
        refine k_goto 43 dX4_isSeen_39 (by decide) ?_
        exact k_zret dX4_isSeen_43 rfl (Or.inr rfl) ⟨_, rfl, by first | (refine bI_t (q_seen_iff.mpr ⟨?_, ?_, ?_⟩) <;> (try unfold q_d) <;> omega) | (refine bI_f (fun q => ?_); obtain ⟨q1, q2, q3⟩ := q_seen_iff.mp q; unfold q_d at q3; omega), rfl⟩
theorem lp_nearestBehind {G : Mem} {l r : Nat} (hl : Lm l) (hr : Rd r) (hb : q_ok (G (l + 7)) (G (l + 8))) (hsg : 0 ≤ G r 0 ∧ G r 0 ≤ 47) {set : Nat} (hset : set < 64) {x : Int} (hx : 0 ≤ x ∧ x ≤ 47) (hn : 0 ≤ G r 2 ∧ G r 2 ≤ 6) {rk : Int} (hrk : -10 ≤ rk ∧ rk ≤ 2000000) : ∀ i : Nat, i ≤ (G r 2).toNat → ∀ j7 : Option Value, RP M_X4_nearestBehind 7 [some (.ref l), some (.ref r), some (.int (iI (set : Int))), some (.int (iI x)), some (.int (iI rk)), some (.int (iI (q_nb (G r 0) (G (l + 7)) (G (l + 8)) set x rk i))), some (.int (iI (i : Int))), j7] [] G (vx (q_nb (G r 0) (G (l + 7)) (G (l + 8)) set x rk (G r 2).toNat) G) := by
  refine cnt (fun j7 => ?_) (fun i hi ih j7 => ?_)
  · skip
    refine k_iload dX4_nearestBehind_7 rfl ?_
    refine k_aload_n dX4_nearestBehind_9 rfl ?_
    refine k_getI dX4_nearestBehind_10 f_X4_55 (Rd.l0 hr) (Rd.o hr) (fun _ => rfl) ?_
    refine k_icmp_ge 83 dX4_nearestBehind_13 (by decide) ⟨by omega, by omega⟩ ⟨by omega, by omega⟩ (fun h13 => ?_) (fun h13 => absurd h13 (by omega))
    refine k_iload dX4_nearestBehind_83 rfl ?_
    exact k_iret dX4_nearestBehind_85 rfl ⟨_, rfl, rfl, rfl⟩
  · skip
    have b := hb i
    have b2 := q_rk_b hb hx i (by omega)
    have b3 := q_nb_b hb hx (sg := G r 0) (set := set) (rk := rk) i (by omega)
    have e := q_nb.eq_2 (G r 0) (G (l + 7)) (G (l + 8)) set x rk i
    refine k_iload dX4_nearestBehind_7 rfl ?_
    refine k_aload_n dX4_nearestBehind_9 rfl ?_
    refine k_getI dX4_nearestBehind_10 f_X4_55 (Rd.l0 hr) (Rd.o hr) (fun _ => rfl) ?_
    refine k_icmp_ge 83 dX4_nearestBehind_13 (by decide) ⟨by omega, by omega⟩ ⟨by omega, by omega⟩ (fun h13 => absurd h13 (by omega)) (fun h13 => ?_)
    refine k_aload_n dX4_nearestBehind_16 rfl ?_
    refine k_aload_n dX4_nearestBehind_17 rfl ?_
    refine k_iload_n dX4_nearestBehind_18 rfl ?_
    refine k_iload_n dX4_nearestBehind_19 rfl ?_
    refine k_iload dX4_nearestBehind_20 rfl ?_
    refine k_callVi [.ref _, .int (iI _), .int (iI _), .int (iI _)] dX4_nearestBehind_22 s_X4_nearestBehind_108 rfl (m_isSeen hl hr hb hsg hset hx (by omega)) rfl (Lm.l0 hl) (Lm.o hl) ⟨_, rfl, rfl⟩ (Nat.le_of_ble_eq_true rfl) ?_
    rintro _ _ ⟨rfl, rfl⟩
    refine k_ifb_eq 77 dX4_nearestBehind_25 (by decide) (fun h25 => ?_) (fun h25 => ?_)
    · skip
      refine k_iinc (L' := [_, _, _, _, _, _, _, _]) dX4_nearestBehind_77 rfl (Nat.le_of_ble_eq_true rfl) rfl ?_
      refine k_goto 7 dX4_nearestBehind_80 (by decide) ?_
      first | (rw [if_pos ⟨h25, by omega, by omega⟩] at e; rw [← e]; exact ih _) | (rw [if_neg (fun q => by first | exact h25 q.1 | omega)] at e; rw [← e]; exact ih _)
    · skip
      refine k_aload_n dX4_nearestBehind_28 rfl ?_
      refine k_getR dX4_nearestBehind_29 f_X4_48 (Lm.l0 hl) (Lm.o hl) (fun _ => rfl) ?_
      refine k_iload dX4_nearestBehind_32 rfl ?_
      refine k_iald i dX4_nearestBehind_34 (Lm.l7 hl) (Lm.a7 hl) (by decide) (by omega) (by omega) ?_
      refine k_iload_n dX4_nearestBehind_35 rfl ?_
      refine k_isub dX4_nearestBehind_36 ?_
      refine k_callSi [.int (iI _)] dX4_nearestBehind_37 s_X4_nearestBehind_112 rfl (m_abs ⟨by omega, by omega⟩) rfl (Nat.le_of_ble_eq_true rfl) ?_
      rintro _ _ ⟨rfl, rfl⟩
      refine k_bipush dX4_nearestBehind_40 (by decide) ?_
      refine k_imul dX4_nearestBehind_42 ?_
      refine k_aload_n dX4_nearestBehind_43 rfl ?_
      refine k_getR dX4_nearestBehind_44 f_X4_52 (Lm.l0 hl) (Lm.o hl) (fun _ => rfl) ?_
      refine k_iload dX4_nearestBehind_47 rfl ?_
      refine k_iald i dX4_nearestBehind_49 (Lm.l8 hl) (Lm.a8 hl) (by decide) (by omega) (by omega) ?_
      refine k_iadd dX4_nearestBehind_50 ?_
      refine k_bipush dX4_nearestBehind_51 (by decide) ?_
      refine k_imul dX4_nearestBehind_53 ?_
      refine k_iload dX4_nearestBehind_54 rfl ?_
      refine k_iadd dX4_nearestBehind_56 ?_
      refine RP_int (x := q_rk (G (l + 7)) (G (l + 8)) x i) rfl ?_
      refine k_istore (L' := [_, _, _, _, _, _, _, _]) dX4_nearestBehind_57 (Nat.le_of_ble_eq_true rfl) rfl ?_
      refine k_iload dX4_nearestBehind_59 rfl ?_
      refine k_iload dX4_nearestBehind_61 rfl ?_
      refine k_icmp_le 77 dX4_nearestBehind_63 (by decide) ⟨by omega, by omega⟩ ⟨by omega, by omega⟩ (fun h63 => ?_) (fun h63 => ?_)
      · skip
        refine k_iinc (L' := [_, _, _, _, _, _, _, _]) dX4_nearestBehind_77 rfl (Nat.le_of_ble_eq_true rfl) rfl ?_
        refine k_goto 7 dX4_nearestBehind_80 (by decide) ?_
        first | (rw [if_pos ⟨h25, by omega, by omega⟩] at e; rw [← e]; exact ih _) | (rw [if_neg (fun q => by first | exact h25 q.1 | omega)] at e; rw [← e]; exact ih _)
      · skip
        refine k_iload dX4_nearestBehind_66 rfl ?_
        refine k_iload dX4_nearestBehind_68 rfl ?_
        refine k_icmp_ge 77 dX4_nearestBehind_70 (by decide) ⟨by omega, by omega⟩ ⟨by omega, by omega⟩ (fun h70 => ?_) (fun h70 => ?_)
        · skip
          refine k_iinc (L' := [_, _, _, _, _, _, _, _]) dX4_nearestBehind_77 rfl (Nat.le_of_ble_eq_true rfl) rfl ?_
          refine k_goto 7 dX4_nearestBehind_80 (by decide) ?_
          first | (rw [if_pos ⟨h25, by omega, by omega⟩] at e; rw [← e]; exact ih _) | (rw [if_neg (fun q => by first | exact h25 q.1 | omega)] at e; rw [← e]; exact ih _)
        · skip
          refine k_iload dX4_nearestBehind_73 rfl ?_
          refine k_istore (L' := [_, _, _, _, _, _, _, _]) dX4_nearestBehind_75 (Nat.le_of_ble_eq_true rfl) rfl ?_
          refine k_iinc (L' := [_, _, _, _, _, _, _, _]) dX4_nearestBehind_77 rfl (Nat.le_of_ble_eq_true rfl) rfl ?_
          refine k_goto 7 dX4_nearestBehind_80 (by decide) ?_
          first | (rw [if_pos ⟨h25, by omega, by omega⟩] at e; rw [← e]; exact ih _) | (rw [if_neg (fun q => by first | exact h25 q.1 | omega)] at e; rw [← e]; exact ih _)
