theorem m_X11_within {G : Mem} {a b c : Int} (ha : R32 a) (hb : R32 b) (hc : R32 c) : MP M_X11_within [.int (iI a), .int (iI b), .int (iI c)] G (vi fun v g => v = bI (b ≤ a ∧ a ≤ c) ∧ g = G) := by
  refine MP.of [some (.int (iI a)), some (.int (iI b)), some (.int (iI c))] (plainFor_of_name pn_X11) (Nat.le_of_ble_eq_true rfl) rfl ?_
  refine k_iload_n dX11_within_0 rfl ?_
  refine k_iload_n dX11_within_1 rfl ?_
  refine k_icmp_lt 14 dX11_within_2 (by decide) ⟨by omega, by omega⟩ ⟨by omega, by omega⟩ (fun h2 => ?_) (fun h2 => ?_)
  · skip
    refine k_iconst dX11_within_14 ?_
    exact k_zret dX11_within_15 rfl (Or.inl rfl) ⟨_, rfl, by unfold bI; split <;> omega, rfl⟩
  · skip
    refine k_iload_n dX11_within_5 rfl ?_
    refine k_iload_n dX11_within_6 rfl ?_
    refine k_icmp_gt 14 dX11_within_7 (by decide) ⟨by omega, by omega⟩ ⟨by omega, by omega⟩ (fun h7 => ?_) (fun h7 => ?_)
    · skip
      refine k_iconst dX11_within_14 ?_
      exact k_zret dX11_within_15 rfl (Or.inl rfl) ⟨_, rfl, by unfold bI; split <;> omega, rfl⟩
    · skip
      refine k_iconst dX11_within_10 ?_
      refine k_goto 15 dX11_within_11 (by decide) ?_
      exact k_zret dX11_within_15 rfl (Or.inr rfl) ⟨_, rfl, by unfold bI; split <;> omega, rfl⟩
theorem m_X11_isCell {G : Mem} {a : Int} (ha : R32 a) : MP M_X11_isCell [.int (iI a)] G (vi fun v g => v = bI (0 ≤ a ∧ a ≤ 47) ∧ g = G) := by
  refine MP.of [some (.int (iI a))] (plainFor_of_name pn_X11) (Nat.le_of_ble_eq_true rfl) rfl ?_
  refine k_iload_n dX11_isCell_0 rfl ?_
  refine k_iconst dX11_isCell_1 ?_
  refine k_bipush dX11_isCell_2 (by decide) ?_
  refine k_callSi [.int (iI _), .int (iI _), .int (iI _)] dX11_isCell_4 s_X11_isCell_57 rfl (m_X11_within ⟨by omega, by omega⟩ ⟨by omega, by omega⟩ ⟨by omega, by omega⟩) rfl (Nat.le_of_ble_eq_true rfl) ?_
  rintro _ _ ⟨rfl, rfl⟩
  exact k_zret dX11_isCell_7 rfl (by unfold bI; split <;> omega) ⟨_, rfl, rfl, rfl⟩
theorem m_min {G : Mem} {a b : Int} (ha : R32 a) (hb : R32 b) : MP M_J9_min_7cf53 [.int (iI a), .int (iI b)] G (vi fun v g => v = (if a ≤ b then a else b) ∧ g = G) := by
  refine MP.of [some (.int (iI a)), some (.int (iI b))] pf_J9_min_7cf53 (Nat.le_of_ble_eq_true rfl) rfl ?_
  refine k_iload_n dJ9_min_7cf53_0 rfl ?_
  refine k_iload_n dJ9_min_7cf53_1 rfl ?_
  refine k_icmp_gt 9 dJ9_min_7cf53_2 (by decide) ⟨by omega, by omega⟩ ⟨by omega, by omega⟩ (fun h2 => ?_) (fun h2 => ?_)
  · skip
    refine k_iload_n dJ9_min_7cf53_9 rfl ?_
    exact k_iret dJ9_min_7cf53_10 rfl ⟨_, rfl, by split <;> omega, rfl⟩
  · skip
    refine k_iload_n dJ9_min_7cf53_5 rfl ?_
    refine k_goto 10 dJ9_min_7cf53_6 (by decide) ?_
    exact k_iret dJ9_min_7cf53_10 rfl ⟨_, rfl, by split <;> omega, rfl⟩
theorem m_abs {G : Mem} {a : Int} (ha : R32 a) : MP M_J9_abs_0f7a4 [.int (iI a)] G (vi fun v g => v = (if 0 ≤ a then a else -a) ∧ g = G) := by
  refine MP.of [some (.int (iI a))] pf_J9_abs_0f7a4 (Nat.le_of_ble_eq_true rfl) rfl ?_
  refine k_iload_n dJ9_abs_0f7a4_0 rfl ?_
  refine k_if_ge 9 dJ9_abs_0f7a4_1 (by decide) ⟨by omega, by omega⟩ (fun h1 => ?_) (fun h1 => ?_)
  · skip
    refine k_iload_n dJ9_abs_0f7a4_9 rfl ?_
    exact k_iret dJ9_abs_0f7a4_10 rfl ⟨_, rfl, by split <;> omega, rfl⟩
  · skip
    refine k_iload_n dJ9_abs_0f7a4_4 rfl ?_
    refine k_ineg dJ9_abs_0f7a4_5 ?_
    refine k_goto 10 dJ9_abs_0f7a4_6 (by decide) ?_
    exact k_iret dJ9_abs_0f7a4_10 rfl ⟨_, rfl, by split <;> omega, rfl⟩
