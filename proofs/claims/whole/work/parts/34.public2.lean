theorem rAdd_2 {G : Mem} {r : Nat} {k h c s b : Int} (hn : G r 2 < 6) : rAdd G r k h c s b r 2 = G r 2 + 1 := by
  unfold rAdd
  rw [if_neg (by omega)]
  simp (disch := omega) only [ug_np, ug_at]
theorem m_pChild {G : Mem} (h2 : 0 ≤ G 1 2 ∧ G 1 2 ≤ 6) {k h c s b : Int} (hk : R32 k) (hh : R32 h) (hc : R32 c) (hs : R32 s) (hb : R32 b) : MP M_X11_child [.ref 0, .int (iI k), .int (iI h), .int (iI c), .int (iI s), .int (iI b)] G (vi fun v g => if (0 ≤ k ∧ k ≤ 5) ∧ (1 ≤ h ∧ h ≤ 9) ∧ (0 ≤ c ∧ c ≤ 47) ∧ (0 ≤ s ∧ s ≤ 3) ∧ (0 ≤ b ∧ b ≤ 60) then (if G 1 2 < 6 then (G 1 2 = v ∧ rAdd G 1 k h c s b = g) else (-4 = v ∧ rF G = g)) else (-2 = v ∧ rB G = g)) := by
  refine MP.of [some (.ref 0), some (.int (iI k)), some (.int (iI h)), some (.int (iI c)), some (.int (iI s)), some (.int (iI b)), none] (plainFor_of_name pn_X11) (Nat.le_of_ble_eq_true rfl) rfl ?_
  refine k_iload_n dX11_child_0 rfl ?_
  refine k_iconst dX11_child_1 ?_
  refine k_iconst dX11_child_2 ?_
  refine k_callSi [.int (iI _), .int (iI _), .int (iI _)] dX11_child_3 s_X11_child_57 rfl (m_within (by first | assumption | exact ⟨by omega, by omega⟩) ⟨by omega, by omega⟩ ⟨by omega, by omega⟩) rfl (Nat.le_of_ble_eq_true rfl) ?_
  rintro _ _ ⟨rfl, rfl⟩
  refine k_ifb_eq 51 dX11_child_6 (by decide) (fun h6 => ?_) (fun h6 => ?_)
  · skip
    refine k_iconst dX11_child_51 ?_
    refine k_istore (L' := [_, _, _, _, _, _, _]) dX11_child_52 (Nat.le_of_ble_eq_true rfl) rfl ?_
    refine k_iload dX11_child_54 rfl ?_
    refine k_if_ne 66 dX11_child_56 (by decide) ⟨by decide, by decide⟩ (fun h => False.elim (by revert h; decide)) (fun _ => ?_)
    refine k_aload_n dX11_child_59 rfl ?_
    refine k_bipush dX11_child_60 (by decide) ?_
    refine k_callVi [.int (iI _)] dX11_child_62 s_X11_child_61 rfl m_refuseBad rfl (Nat.le_of_ble_eq_true rfl) sh_o0 ⟨_, rfl, rfl⟩ (Nat.le_of_ble_eq_true rfl) ?_
    rintro _ _ ⟨rfl, rfl⟩
    exact k_iret dX11_child_65 rfl ⟨_, rfl, by (try dsimp only); first | (exfalso; omega) | (rw [if_pos (by omega), if_pos (by omega)]; exact ⟨by first | rfl | omega, rfl⟩) | (rw [if_pos (by omega), if_neg (by omega)]; exact ⟨by first | rfl | omega, rfl⟩) | (rw [if_neg (by omega)]; exact ⟨by first | rfl | omega, rfl⟩)⟩
  · skip
    refine k_iload_n dX11_child_9 rfl ?_
    refine k_iconst dX11_child_10 ?_
    refine k_bipush dX11_child_11 (by decide) ?_
    refine k_callSi [.int (iI _), .int (iI _), .int (iI _)] dX11_child_13 s_X11_child_57 rfl (m_within (by first | assumption | exact ⟨by omega, by omega⟩) ⟨by omega, by omega⟩ ⟨by omega, by omega⟩) rfl (Nat.le_of_ble_eq_true rfl) ?_
    rintro _ _ ⟨rfl, rfl⟩
    refine k_ifb_eq 51 dX11_child_16 (by decide) (fun h16 => ?_) (fun h16 => ?_)
    · skip
      refine k_iconst dX11_child_51 ?_
      refine k_istore (L' := [_, _, _, _, _, _, _]) dX11_child_52 (Nat.le_of_ble_eq_true rfl) rfl ?_
      refine k_iload dX11_child_54 rfl ?_
      refine k_if_ne 66 dX11_child_56 (by decide) ⟨by decide, by decide⟩ (fun h => False.elim (by revert h; decide)) (fun _ => ?_)
      refine k_aload_n dX11_child_59 rfl ?_
      refine k_bipush dX11_child_60 (by decide) ?_
      refine k_callVi [.int (iI _)] dX11_child_62 s_X11_child_61 rfl m_refuseBad rfl (Nat.le_of_ble_eq_true rfl) sh_o0 ⟨_, rfl, rfl⟩ (Nat.le_of_ble_eq_true rfl) ?_
      rintro _ _ ⟨rfl, rfl⟩
      exact k_iret dX11_child_65 rfl ⟨_, rfl, by (try dsimp only); first | (exfalso; omega) | (rw [if_pos (by omega), if_pos (by omega)]; exact ⟨by first | rfl | omega, rfl⟩) | (rw [if_pos (by omega), if_neg (by omega)]; exact ⟨by first | rfl | omega, rfl⟩) | (rw [if_neg (by omega)]; exact ⟨by first | rfl | omega, rfl⟩)⟩
    · skip
      refine k_iload_n dX11_child_19 rfl ?_
      refine k_callSi [.int (iI _)] dX11_child_20 s_X11_child_78 rfl (m_isCell (by assumption)) rfl (Nat.le_of_ble_eq_true rfl) ?_
      rintro _ _ ⟨rfl, rfl⟩
      refine k_ifb_eq 51 dX11_child_23 (by decide) (fun h23 => ?_) (fun h23 => ?_)
      · skip
        refine k_iconst dX11_child_51 ?_
        refine k_istore (L' := [_, _, _, _, _, _, _]) dX11_child_52 (Nat.le_of_ble_eq_true rfl) rfl ?_
        refine k_iload dX11_child_54 rfl ?_
        refine k_if_ne 66 dX11_child_56 (by decide) ⟨by decide, by decide⟩ (fun h => False.elim (by revert h; decide)) (fun _ => ?_)
        refine k_aload_n dX11_child_59 rfl ?_
        refine k_bipush dX11_child_60 (by decide) ?_
        refine k_callVi [.int (iI _)] dX11_child_62 s_X11_child_61 rfl m_refuseBad rfl (Nat.le_of_ble_eq_true rfl) sh_o0 ⟨_, rfl, rfl⟩ (Nat.le_of_ble_eq_true rfl) ?_
        rintro _ _ ⟨rfl, rfl⟩
        exact k_iret dX11_child_65 rfl ⟨_, rfl, by (try dsimp only); first | (exfalso; omega) | (rw [if_pos (by omega), if_pos (by omega)]; exact ⟨by first | rfl | omega, rfl⟩) | (rw [if_pos (by omega), if_neg (by omega)]; exact ⟨by first | rfl | omega, rfl⟩) | (rw [if_neg (by omega)]; exact ⟨by first | rfl | omega, rfl⟩)⟩
      · skip
        refine k_iload dX11_child_26 rfl ?_
        refine k_iconst dX11_child_28 ?_
        refine k_iconst dX11_child_29 ?_
        refine k_callSi [.int (iI _), .int (iI _), .int (iI _)] dX11_child_30 s_X11_child_57 rfl (m_within (by first | assumption | exact ⟨by omega, by omega⟩) ⟨by omega, by omega⟩ ⟨by omega, by omega⟩) rfl (Nat.le_of_ble_eq_true rfl) ?_
        rintro _ _ ⟨rfl, rfl⟩
        refine k_ifb_eq 51 dX11_child_33 (by decide) (fun h33 => ?_) (fun h33 => ?_)
        · skip
          refine k_iconst dX11_child_51 ?_
          refine k_istore (L' := [_, _, _, _, _, _, _]) dX11_child_52 (Nat.le_of_ble_eq_true rfl) rfl ?_
          refine k_iload dX11_child_54 rfl ?_
          refine k_if_ne 66 dX11_child_56 (by decide) ⟨by decide, by decide⟩ (fun h => False.elim (by revert h; decide)) (fun _ => ?_)
          refine k_aload_n dX11_child_59 rfl ?_
          refine k_bipush dX11_child_60 (by decide) ?_
          refine k_callVi [.int (iI _)] dX11_child_62 s_X11_child_61 rfl m_refuseBad rfl (Nat.le_of_ble_eq_true rfl) sh_o0 ⟨_, rfl, rfl⟩ (Nat.le_of_ble_eq_true rfl) ?_
          rintro _ _ ⟨rfl, rfl⟩
          exact k_iret dX11_child_65 rfl ⟨_, rfl, by (try dsimp only); first | (exfalso; omega) | (rw [if_pos (by omega), if_pos (by omega)]; exact ⟨by first | rfl | omega, rfl⟩) | (rw [if_pos (by omega), if_neg (by omega)]; exact ⟨by first | rfl | omega, rfl⟩) | (rw [if_neg (by omega)]; exact ⟨by first | rfl | omega, rfl⟩)⟩
        · skip
          refine k_iload dX11_child_36 rfl ?_
          refine k_iconst dX11_child_38 ?_
          refine k_bipush dX11_child_39 (by decide) ?_
          refine k_callSi [.int (iI _), .int (iI _), .int (iI _)] dX11_child_41 s_X11_child_57 rfl (m_within (by first | assumption | exact ⟨by omega, by omega⟩) ⟨by omega, by omega⟩ ⟨by omega, by omega⟩) rfl (Nat.le_of_ble_eq_true rfl) ?_
          rintro _ _ ⟨rfl, rfl⟩
          refine k_ifb_eq 51 dX11_child_44 (by decide) (fun h44 => ?_) (fun h44 => ?_)
          · skip
            refine k_iconst dX11_child_51 ?_
            refine k_istore (L' := [_, _, _, _, _, _, _]) dX11_child_52 (Nat.le_of_ble_eq_true rfl) rfl ?_
            refine k_iload dX11_child_54 rfl ?_
            refine k_if_ne 66 dX11_child_56 (by decide) ⟨by decide, by decide⟩ (fun h => False.elim (by revert h; decide)) (fun _ => ?_)
            refine k_aload_n dX11_child_59 rfl ?_
            refine k_bipush dX11_child_60 (by decide) ?_
            refine k_callVi [.int (iI _)] dX11_child_62 s_X11_child_61 rfl m_refuseBad rfl (Nat.le_of_ble_eq_true rfl) sh_o0 ⟨_, rfl, rfl⟩ (Nat.le_of_ble_eq_true rfl) ?_
            rintro _ _ ⟨rfl, rfl⟩
            exact k_iret dX11_child_65 rfl ⟨_, rfl, by (try dsimp only); first | (exfalso; omega) | (rw [if_pos (by omega), if_pos (by omega)]; exact ⟨by first | rfl | omega, rfl⟩) | (rw [if_pos (by omega), if_neg (by omega)]; exact ⟨by first | rfl | omega, rfl⟩) | (rw [if_neg (by omega)]; exact ⟨by first | rfl | omega, rfl⟩)⟩
          · skip
            refine k_iconst dX11_child_47 ?_
            refine k_goto 52 dX11_child_48 (by decide) ?_
            refine k_istore (L' := [_, _, _, _, _, _, _]) dX11_child_52 (Nat.le_of_ble_eq_true rfl) rfl ?_
            refine k_iload dX11_child_54 rfl ?_
            refine k_if_ne 66 dX11_child_56 (by decide) ⟨by decide, by decide⟩ (fun _ => ?_) (fun h => False.elim (by revert h; decide))
            refine k_aload_n dX11_child_66 rfl ?_
            refine k_getR dX11_child_67 f_X11_10 (Nat.le_of_ble_eq_true rfl) sh_o0 (fun _ => rfl) ?_
            refine k_getI dX11_child_70 f_X11_65 (Nat.le_of_ble_eq_true rfl) (Rd.o rd1) (fun _ => rfl) ?_
            refine k_bipush dX11_child_73 (by decide) ?_
            refine k_icmp_lt 83 dX11_child_75 (by decide) ⟨by omega, by omega⟩ ⟨by decide, by decide⟩ (fun h75 => ?_) (fun h75 => ?_)
            · skip
              refine k_aload_n dX11_child_83 rfl ?_
              refine k_getR dX11_child_84 f_X11_10 (Nat.le_of_ble_eq_true rfl) sh_o0 (fun _ => rfl) ?_
              refine k_iload_n dX11_child_87 rfl ?_
              refine k_iload_n dX11_child_88 rfl ?_
              refine k_iload_n dX11_child_89 rfl ?_
              refine k_iload dX11_child_90 rfl ?_
              refine k_iload dX11_child_92 rfl ?_
              refine k_callVv [.int (iI _), .int (iI _), .int (iI _), .int (iI _), .int (iI _)] dX11_child_94 s_X11_child_86 rfl (m_addChild rd1 h2) rfl (Nat.le_of_ble_eq_true rfl) (Rd.o rd1) ⟨_, rfl, rfl⟩ (Nat.le_of_ble_eq_true rfl) ?_
              rintro _ rfl
              refine k_aload_n dX11_child_97 rfl ?_
              refine k_getR dX11_child_98 f_X11_10 (Nat.le_of_ble_eq_true rfl) sh_o0 (fun _ => rfl) ?_
              refine k_getI dX11_child_101 f_X11_65 (Nat.le_of_ble_eq_true rfl) (Rd.o rd1) (fun _ => rfl) ?_
              rw [rAdd_2 (by omega)]
              refine k_iconst dX11_child_104 ?_
              refine k_isub dX11_child_105 ?_
              exact k_iret dX11_child_106 rfl ⟨_, rfl, by (try dsimp only); first | (exfalso; omega) | (rw [if_pos (by omega), if_pos (by omega)]; exact ⟨by first | rfl | omega, rfl⟩) | (rw [if_pos (by omega), if_neg (by omega)]; exact ⟨by first | rfl | omega, rfl⟩) | (rw [if_neg (by omega)]; exact ⟨by first | rfl | omega, rfl⟩)⟩
            · skip
              refine k_aload_n dX11_child_78 rfl ?_
              refine k_callVi [] dX11_child_79 s_X11_child_82 rfl m_refuseFull rfl (Nat.le_of_ble_eq_true rfl) sh_o0 ⟨_, rfl, rfl⟩ (Nat.le_of_ble_eq_true rfl) ?_
              rintro _ _ ⟨rfl, rfl⟩
              exact k_iret dX11_child_82 rfl ⟨_, rfl, by (try dsimp only); first | (exfalso; omega) | (rw [if_pos (by omega), if_pos (by omega)]; exact ⟨by first | rfl | omega, rfl⟩) | (rw [if_pos (by omega), if_neg (by omega)]; exact ⟨by first | rfl | omega, rfl⟩) | (rw [if_neg (by omega)]; exact ⟨by first | rfl | omega, rfl⟩)⟩
theorem m_pStand {G : Mem} (h2 : 0 ≤ G 1 2 ∧ G 1 2 ≤ 6) (h14 : 0 ≤ G 1 14 ∧ G 1 14 ≤ 8) (hz : ∀ j, G (1 + 11) j = 0 ∨ G (1 + 11) j = 1) {c x : Int} (hc : R32 c) (hx : R32 x) : MP M_X11_stand [.ref 0, .int (iI c), .int (iI x)] G (vi fun v g => if (0 ≤ c ∧ c ≤ G 1 2 - 1) ∧ (0 ≤ x ∧ x ≤ 47) then (G (1 + 3) c.toNat = v ∧ ug (rKeep G 1 c 0 (G (1 + 3) c.toNat)) (1 + 3) c.toNat x = g) else (-2 = v ∧ rB G = g)) := by
  refine MP.of [some (.ref 0), some (.int (iI c)), some (.int (iI x)), none] (plainFor_of_name pn_X11) (Nat.le_of_ble_eq_true rfl) rfl ?_
  refine k_aload_n dX11_stand_0 rfl ?_
  refine k_iload_n dX11_stand_1 rfl ?_
  refine k_callVi [.int (iI _)] dX11_stand_2 s_X11_stand_90 rfl (m_isChild h2 (by assumption)) rfl (Nat.le_of_ble_eq_true rfl) sh_o0 ⟨_, rfl, rfl⟩ (Nat.le_of_ble_eq_true rfl) ?_
  rintro _ _ ⟨rfl, rfl⟩
  refine k_ifb_eq 15 dX11_stand_5 (by decide) (fun h5 => ?_) (fun h5 => ?_)
  · skip
    refine k_aload_n dX11_stand_15 rfl ?_
    refine k_bipush dX11_stand_16 (by decide) ?_
    refine k_callVi [.int (iI _)] dX11_stand_18 s_X11_stand_61 rfl m_refuseBad rfl (Nat.le_of_ble_eq_true rfl) sh_o0 ⟨_, rfl, rfl⟩ (Nat.le_of_ble_eq_true rfl) ?_
    rintro _ _ ⟨rfl, rfl⟩
    exact k_iret dX11_stand_21 rfl ⟨_, rfl, by (try dsimp only); first | (exfalso; omega) | (rw [if_pos (by omega)]; exact ⟨by first | rfl | omega, rfl⟩) | (rw [if_neg (by omega)]; exact ⟨by first | rfl | omega, rfl⟩)⟩
  · skip
    refine k_iload_n dX11_stand_8 rfl ?_
    refine k_callSi [.int (iI _)] dX11_stand_9 s_X11_stand_78 rfl (m_isCell (by assumption)) rfl (Nat.le_of_ble_eq_true rfl) ?_
    rintro _ _ ⟨rfl, rfl⟩
    refine k_ifb_ne 22 dX11_stand_12 (by decide) (fun h12 => ?_) (fun h12 => ?_)
    · skip
      refine k_aload_n dX11_stand_22 rfl ?_
      refine k_getR dX11_stand_23 f_X11_10 (Nat.le_of_ble_eq_true rfl) sh_o0 (fun _ => rfl) ?_
      refine k_getR dX11_stand_26 f_X11_93 (Nat.le_of_ble_eq_true rfl) (Rd.o rd1) (fun _ => rfl) ?_
      refine k_iload_n dX11_stand_29 rfl ?_
      refine k_iald c.toNat dX11_stand_30 (Rd.l3 rd1) (Rd.a3 rd1) (by decide) (by omega) (by omega) ?_
      refine k_istore_n (L' := [_, _, _, _]) dX11_stand_31 (Nat.le_of_ble_eq_true rfl) rfl ?_
      refine k_aload_n dX11_stand_32 rfl ?_
      refine k_getR dX11_stand_33 f_X11_10 (Nat.le_of_ble_eq_true rfl) sh_o0 (fun _ => rfl) ?_
      refine k_iload_n dX11_stand_36 rfl ?_
      refine k_iconst dX11_stand_37 ?_
      refine k_iload_n dX11_stand_38 rfl ?_
      refine k_callVv [.int (iI _), .int (iI _), .int (iI _)] dX11_stand_39 s_X11_stand_97 rfl (m_keepForUndo rd1 h14 hz (Or.inl rfl)) rfl (Nat.le_of_ble_eq_true rfl) (Rd.o rd1) ⟨_, rfl, rfl⟩ (Nat.le_of_ble_eq_true rfl) ?_
      rintro _ rfl
      refine k_aload_n dX11_stand_42 rfl ?_
      refine k_getR dX11_stand_43 f_X11_10 (Nat.le_of_ble_eq_true rfl) sh_o0 (fun _ => rfl) ?_
      refine k_getR dX11_stand_46 f_X11_93 (Nat.le_of_ble_eq_true rfl) (Rd.o rd1) (fun _ => rfl) ?_
      refine k_iload_n dX11_stand_49 rfl ?_
      refine k_iload_n dX11_stand_50 rfl ?_
      refine k_iast c.toNat dX11_stand_51 (Rd.l3 rd1) (Rd.a3 rd1) (by decide) (by omega) (by omega) ?_
      refine k_iload_n dX11_stand_52 rfl ?_
      exact k_iret dX11_stand_53 rfl ⟨_, rfl, by (try dsimp only); first | (exfalso; omega) | (rw [if_pos (by omega)]; exact ⟨by first | rfl | omega, rfl⟩) | (rw [if_neg (by omega)]; exact ⟨by first | rfl | omega, rfl⟩)⟩
    · skip
      refine k_aload_n dX11_stand_15 rfl ?_
      refine k_bipush dX11_stand_16 (by decide) ?_
      refine k_callVi [.int (iI _)] dX11_stand_18 s_X11_stand_61 rfl m_refuseBad rfl (Nat.le_of_ble_eq_true rfl) sh_o0 ⟨_, rfl, rfl⟩ (Nat.le_of_ble_eq_true rfl) ?_
      rintro _ _ ⟨rfl, rfl⟩
      exact k_iret dX11_stand_21 rfl ⟨_, rfl, by (try dsimp only); first | (exfalso; omega) | (rw [if_pos (by omega)]; exact ⟨by first | rfl | omega, rfl⟩) | (rw [if_neg (by omega)]; exact ⟨by first | rfl | omega, rfl⟩)⟩
theorem m_pBed {G : Mem} (h2 : 0 ≤ G 1 2 ∧ G 1 2 ≤ 6) (h14 : 0 ≤ G 1 14 ∧ G 1 14 ≤ 8) (hz : ∀ j, G (1 + 11) j = 0 ∨ G (1 + 11) j = 1) {c x : Int} (hc : R32 c) (hx : R32 x) : MP M_X11_bed [.ref 0, .int (iI c), .int (iI x)] G (vi fun v g => if (0 ≤ c ∧ c ≤ G 1 2 - 1) ∧ (0 ≤ x ∧ x ≤ 60) then (G (1 + 5) c.toNat = v ∧ ug (rKeep G 1 c 1 (G (1 + 5) c.toNat)) (1 + 5) c.toNat x = g) else (-2 = v ∧ rB G = g)) := by
  refine MP.of [some (.ref 0), some (.int (iI c)), some (.int (iI x)), none] (plainFor_of_name pn_X11) (Nat.le_of_ble_eq_true rfl) rfl ?_
  refine k_aload_n dX11_bed_0 rfl ?_
  refine k_iload_n dX11_bed_1 rfl ?_
  refine k_callVi [.int (iI _)] dX11_bed_2 s_X11_bed_90 rfl (m_isChild h2 (by assumption)) rfl (Nat.le_of_ble_eq_true rfl) sh_o0 ⟨_, rfl, rfl⟩ (Nat.le_of_ble_eq_true rfl) ?_
  rintro _ _ ⟨rfl, rfl⟩
  refine k_ifb_eq 18 dX11_bed_5 (by decide) (fun h5 => ?_) (fun h5 => ?_)
  · skip
    refine k_aload_n dX11_bed_18 rfl ?_
    refine k_bipush dX11_bed_19 (by decide) ?_
    refine k_callVi [.int (iI _)] dX11_bed_21 s_X11_bed_61 rfl m_refuseBad rfl (Nat.le_of_ble_eq_true rfl) sh_o0 ⟨_, rfl, rfl⟩ (Nat.le_of_ble_eq_true rfl) ?_
    rintro _ _ ⟨rfl, rfl⟩
    exact k_iret dX11_bed_24 rfl ⟨_, rfl, by (try dsimp only); first | (exfalso; omega) | (rw [if_pos (by omega)]; exact ⟨by first | rfl | omega, rfl⟩) | (rw [if_neg (by omega)]; exact ⟨by first | rfl | omega, rfl⟩)⟩
  · skip
    refine k_iload_n dX11_bed_8 rfl ?_
    refine k_iconst dX11_bed_9 ?_
    refine k_bipush dX11_bed_10 (by decide) ?_
    refine k_callSi [.int (iI _), .int (iI _), .int (iI _)] dX11_bed_12 s_X11_bed_57 rfl (m_within (by first | assumption | exact ⟨by omega, by omega⟩) ⟨by omega, by omega⟩ ⟨by omega, by omega⟩) rfl (Nat.le_of_ble_eq_true rfl) ?_
    rintro _ _ ⟨rfl, rfl⟩
    refine k_ifb_ne 25 dX11_bed_15 (by decide) (fun h15 => ?_) (fun h15 => ?_)
    · skip
      refine k_aload_n dX11_bed_25 rfl ?_
      refine k_getR dX11_bed_26 f_X11_10 (Nat.le_of_ble_eq_true rfl) sh_o0 (fun _ => rfl) ?_
      refine k_getR dX11_bed_29 f_X11_101 (Nat.le_of_ble_eq_true rfl) (Rd.o rd1) (fun _ => rfl) ?_
      refine k_iload_n dX11_bed_32 rfl ?_
      refine k_iald c.toNat dX11_bed_33 (Rd.l5 rd1) (Rd.a5 rd1) (by decide) (by omega) (by omega) ?_
      refine k_istore_n (L' := [_, _, _, _]) dX11_bed_34 (Nat.le_of_ble_eq_true rfl) rfl ?_
      refine k_aload_n dX11_bed_35 rfl ?_
      refine k_getR dX11_bed_36 f_X11_10 (Nat.le_of_ble_eq_true rfl) sh_o0 (fun _ => rfl) ?_
      refine k_iload_n dX11_bed_39 rfl ?_
      refine k_iconst dX11_bed_40 ?_
      refine k_iload_n dX11_bed_41 rfl ?_
      refine k_callVv [.int (iI _), .int (iI _), .int (iI _)] dX11_bed_42 s_X11_bed_97 rfl (m_keepForUndo rd1 h14 hz (Or.inr rfl)) rfl (Nat.le_of_ble_eq_true rfl) (Rd.o rd1) ⟨_, rfl, rfl⟩ (Nat.le_of_ble_eq_true rfl) ?_
      rintro _ rfl
      refine k_aload_n dX11_bed_45 rfl ?_
      refine k_getR dX11_bed_46 f_X11_10 (Nat.le_of_ble_eq_true rfl) sh_o0 (fun _ => rfl) ?_
      refine k_getR dX11_bed_49 f_X11_101 (Nat.le_of_ble_eq_true rfl) (Rd.o rd1) (fun _ => rfl) ?_
      refine k_iload_n dX11_bed_52 rfl ?_
      refine k_iload_n dX11_bed_53 rfl ?_
      refine k_iast c.toNat dX11_bed_54 (Rd.l5 rd1) (Rd.a5 rd1) (by decide) (by omega) (by omega) ?_
      refine k_iload_n dX11_bed_55 rfl ?_
      exact k_iret dX11_bed_56 rfl ⟨_, rfl, by (try dsimp only); first | (exfalso; omega) | (rw [if_pos (by omega)]; exact ⟨by first | rfl | omega, rfl⟩) | (rw [if_neg (by omega)]; exact ⟨by first | rfl | omega, rfl⟩)⟩
    · skip
      refine k_aload_n dX11_bed_18 rfl ?_
      refine k_bipush dX11_bed_19 (by decide) ?_
      refine k_callVi [.int (iI _)] dX11_bed_21 s_X11_bed_61 rfl m_refuseBad rfl (Nat.le_of_ble_eq_true rfl) sh_o0 ⟨_, rfl, rfl⟩ (Nat.le_of_ble_eq_true rfl) ?_
      rintro _ _ ⟨rfl, rfl⟩
      exact k_iret dX11_bed_24 rfl ⟨_, rfl, by (try dsimp only); first | (exfalso; omega) | (rw [if_pos (by omega)]; exact ⟨by first | rfl | omega, rfl⟩) | (rw [if_neg (by omega)]; exact ⟨by first | rfl | omega, rfl⟩)⟩
theorem m_pReading {G : Mem} (h10 : 0 ≤ G 1 10 ∧ G 1 10 ≤ 6) {c t x : Int} (hc : R32 c) (ht : R32 t) (hx : R32 x) : MP M_X11_reading [.ref 0, .int (iI c), .int (iI t), .int (iI x)] G (vi fun v g => if (0 ≤ c ∧ c ≤ 47) ∧ (0 ≤ t ∧ t ≤ 59) ∧ (1 ≤ x ∧ x ≤ 9) then (if G 1 10 < 6 then (G 1 10 + 1 = v ∧ rRdg G 1 c t x = g) else (-4 = v ∧ rF G = g)) else (-2 = v ∧ rB G = g)) := by
  refine MP.of [some (.ref 0), some (.int (iI c)), some (.int (iI t)), some (.int (iI x))] (plainFor_of_name pn_X11) (Nat.le_of_ble_eq_true rfl) rfl ?_
  refine k_iload_n dX11_reading_0 rfl ?_
  refine k_callSi [.int (iI _)] dX11_reading_1 s_X11_reading_78 rfl (m_isCell (by assumption)) rfl (Nat.le_of_ble_eq_true rfl) ?_
  rintro _ _ ⟨rfl, rfl⟩
  refine k_ifb_eq 24 dX11_reading_4 (by decide) (fun h4 => ?_) (fun h4 => ?_)
  · skip
    refine k_aload_n dX11_reading_24 rfl ?_
    refine k_bipush dX11_reading_25 (by decide) ?_
    refine k_callVi [.int (iI _)] dX11_reading_27 s_X11_reading_61 rfl m_refuseBad rfl (Nat.le_of_ble_eq_true rfl) sh_o0 ⟨_, rfl, rfl⟩ (Nat.le_of_ble_eq_true rfl) ?_
    rintro _ _ ⟨rfl, rfl⟩
    exact k_iret dX11_reading_30 rfl ⟨_, rfl, by (try dsimp only); first | (exfalso; omega) | (rw [if_pos (by omega), if_pos (by omega)]; exact ⟨by first | rfl | omega, rfl⟩) | (rw [if_pos (by omega), if_neg (by omega)]; exact ⟨by first | rfl | omega, rfl⟩) | (rw [if_neg (by omega)]; exact ⟨by first | rfl | omega, rfl⟩)⟩
  · skip
    refine k_iload_n dX11_reading_7 rfl ?_
    refine k_callSi [.int (iI _)] dX11_reading_8 s_X11_reading_128 rfl (m_isMinute (by assumption)) rfl (Nat.le_of_ble_eq_true rfl) ?_
    rintro _ _ ⟨rfl, rfl⟩
    refine k_ifb_eq 24 dX11_reading_11 (by decide) (fun h11 => ?_) (fun h11 => ?_)
    · skip
      refine k_aload_n dX11_reading_24 rfl ?_
      refine k_bipush dX11_reading_25 (by decide) ?_
      refine k_callVi [.int (iI _)] dX11_reading_27 s_X11_reading_61 rfl m_refuseBad rfl (Nat.le_of_ble_eq_true rfl) sh_o0 ⟨_, rfl, rfl⟩ (Nat.le_of_ble_eq_true rfl) ?_
      rintro _ _ ⟨rfl, rfl⟩
      exact k_iret dX11_reading_30 rfl ⟨_, rfl, by (try dsimp only); first | (exfalso; omega) | (rw [if_pos (by omega), if_pos (by omega)]; exact ⟨by first | rfl | omega, rfl⟩) | (rw [if_pos (by omega), if_neg (by omega)]; exact ⟨by first | rfl | omega, rfl⟩) | (rw [if_neg (by omega)]; exact ⟨by first | rfl | omega, rfl⟩)⟩
    · skip
      refine k_iload_n dX11_reading_14 rfl ?_
      refine k_iconst dX11_reading_15 ?_
      refine k_bipush dX11_reading_16 (by decide) ?_
      refine k_callSi [.int (iI _), .int (iI _), .int (iI _)] dX11_reading_18 s_X11_reading_57 rfl (m_within (by first | assumption | exact ⟨by omega, by omega⟩) ⟨by omega, by omega⟩ ⟨by omega, by omega⟩) rfl (Nat.le_of_ble_eq_true rfl) ?_
      rintro _ _ ⟨rfl, rfl⟩
      refine k_ifb_ne 31 dX11_reading_21 (by decide) (fun h21 => ?_) (fun h21 => ?_)
      · skip
        refine k_aload_n dX11_reading_31 rfl ?_
        refine k_getR dX11_reading_32 f_X11_10 (Nat.le_of_ble_eq_true rfl) sh_o0 (fun _ => rfl) ?_
        refine k_getI dX11_reading_35 f_X11_197 (Nat.le_of_ble_eq_true rfl) (Rd.o rd1) (fun _ => rfl) ?_
        refine k_bipush dX11_reading_38 (by decide) ?_
        refine k_icmp_lt 48 dX11_reading_40 (by decide) ⟨by omega, by omega⟩ ⟨by decide, by decide⟩ (fun h40 => ?_) (fun h40 => ?_)
        · skip
          refine k_aload_n dX11_reading_48 rfl ?_
          refine k_getR dX11_reading_49 f_X11_10 (Nat.le_of_ble_eq_true rfl) sh_o0 (fun _ => rfl) ?_
          refine k_iload_n dX11_reading_52 rfl ?_
          refine k_iload_n dX11_reading_53 rfl ?_
          refine k_iload_n dX11_reading_54 rfl ?_
          refine k_callVv [.int (iI _), .int (iI _), .int (iI _)] dX11_reading_55 s_X11_reading_200 rfl (m_addReading rd1 h10) rfl (Nat.le_of_ble_eq_true rfl) (Rd.o rd1) ⟨_, rfl, rfl⟩ (Nat.le_of_ble_eq_true rfl) ?_
          rintro _ rfl
          refine k_aload_n dX11_reading_58 rfl ?_
          refine k_getR dX11_reading_59 f_X11_10 (Nat.le_of_ble_eq_true rfl) sh_o0 (fun _ => rfl) ?_
          refine k_getI dX11_reading_62 f_X11_197 (Nat.le_of_ble_eq_true rfl) (Rd.o rd1) (fun _ => rfl) ?_
          rw [show rRdg G 1 c t x 1 10 = G 1 10 + 1 from by unfold rRdg; rw [if_neg (by omega)]; exact ug_at]
          exact k_iret dX11_reading_65 rfl ⟨_, rfl, by (try dsimp only); first | (exfalso; omega) | (rw [if_pos (by omega), if_pos (by omega)]; exact ⟨by first | rfl | omega, rfl⟩) | (rw [if_pos (by omega), if_neg (by omega)]; exact ⟨by first | rfl | omega, rfl⟩) | (rw [if_neg (by omega)]; exact ⟨by first | rfl | omega, rfl⟩)⟩
        · skip
          refine k_aload_n dX11_reading_43 rfl ?_
          refine k_callVi [] dX11_reading_44 s_X11_reading_82 rfl m_refuseFull rfl (Nat.le_of_ble_eq_true rfl) sh_o0 ⟨_, rfl, rfl⟩ (Nat.le_of_ble_eq_true rfl) ?_
          rintro _ _ ⟨rfl, rfl⟩
          exact k_iret dX11_reading_47 rfl ⟨_, rfl, by (try dsimp only); first | (exfalso; omega) | (rw [if_pos (by omega), if_pos (by omega)]; exact ⟨by first | rfl | omega, rfl⟩) | (rw [if_pos (by omega), if_neg (by omega)]; exact ⟨by first | rfl | omega, rfl⟩) | (rw [if_neg (by omega)]; exact ⟨by first | rfl | omega, rfl⟩)⟩
      · skip
        refine k_aload_n dX11_reading_24 rfl ?_
        refine k_bipush dX11_reading_25 (by decide) ?_
        refine k_callVi [.int (iI _)] dX11_reading_27 s_X11_reading_61 rfl m_refuseBad rfl (Nat.le_of_ble_eq_true rfl) sh_o0 ⟨_, rfl, rfl⟩ (Nat.le_of_ble_eq_true rfl) ?_
        rintro _ _ ⟨rfl, rfl⟩
        exact k_iret dX11_reading_30 rfl ⟨_, rfl, by (try dsimp only); first | (exfalso; omega) | (rw [if_pos (by omega), if_pos (by omega)]; exact ⟨by first | rfl | omega, rfl⟩) | (rw [if_pos (by omega), if_neg (by omega)]; exact ⟨by first | rfl | omega, rfl⟩) | (rw [if_neg (by omega)]; exact ⟨by first | rfl | omega, rfl⟩)⟩
theorem m_pStatus {G : Mem} {w : Int} (hw : R32 w) : MP M_X11_status [.ref 0, .int (iI w)] G (vi fun v g => if 0 ≤ w ∧ w ≤ 2 then ((if w = 0 then G 0 12 else if w = 1 then G 0 13 else G 0 14) = v ∧ G = g) else (-1 = v ∧ rB G = g)) := by
  refine MP.of [some (.ref 0), some (.int (iI w))] (plainFor_of_name pn_X11) (Nat.le_of_ble_eq_true rfl) rfl ?_
  refine k_iload_n dX11_status_0 rfl ?_
  rcases (show w = 0 ∨ w = 1 ∨ w = 2 ∨ (w < 0 ∨ 2 < w) from by omega) with hts | hts | hts | hts
  · skip
    refine k_tsIn 28 dX11_status_1 0 hts ⟨by decide, by decide⟩ ⟨by decide, by decide⟩ (off := 27) rfl (by decide) ?_
    refine k_aload_n dX11_status_28 rfl ?_
    refine k_getI dX11_status_29 f_X11_243 (Nat.le_of_ble_eq_true rfl) sh_o0 (fun _ => rfl) ?_
    exact k_iret dX11_status_32 rfl ⟨_, rfl, by (try dsimp only); first | (rw [if_pos (by omega), hts]; exact ⟨rfl, rfl⟩) | (rw [if_neg (by omega)]; exact ⟨rfl, rfl⟩)⟩
  · skip
    refine k_tsIn 33 dX11_status_1 1 hts ⟨by decide, by decide⟩ ⟨by decide, by decide⟩ (off := 32) rfl (by decide) ?_
    refine k_aload_n dX11_status_33 rfl ?_
    refine k_getI dX11_status_34 f_X11_246 (Nat.le_of_ble_eq_true rfl) sh_o0 (fun _ => rfl) ?_
    exact k_iret dX11_status_37 rfl ⟨_, rfl, by (try dsimp only); first | (rw [if_pos (by omega), hts]; exact ⟨rfl, rfl⟩) | (rw [if_neg (by omega)]; exact ⟨rfl, rfl⟩)⟩
  · skip
    refine k_tsIn 38 dX11_status_1 2 hts ⟨by decide, by decide⟩ ⟨by decide, by decide⟩ (off := 37) rfl (by decide) ?_
    refine k_aload_n dX11_status_38 rfl ?_
    refine k_getI dX11_status_39 f_X11_249 (Nat.le_of_ble_eq_true rfl) sh_o0 (fun _ => rfl) ?_
    exact k_iret dX11_status_42 rfl ⟨_, rfl, by (try dsimp only); first | (rw [if_pos (by omega), hts]; exact ⟨rfl, rfl⟩) | (rw [if_neg (by omega)]; exact ⟨rfl, rfl⟩)⟩
  · skip
    refine k_tsOut 43 dX11_status_1 ⟨by omega, by omega⟩ hts (by decide) ?_
    refine k_aload_n dX11_status_43 rfl ?_
    refine k_iconst dX11_status_44 ?_
    refine k_callVi [.int (iI _)] dX11_status_45 s_X11_status_61 rfl m_refuseBad rfl (Nat.le_of_ble_eq_true rfl) sh_o0 ⟨_, rfl, rfl⟩ (Nat.le_of_ble_eq_true rfl) ?_
    rintro _ _ ⟨rfl, rfl⟩
    exact k_iret dX11_status_48 rfl ⟨_, rfl, by (try dsimp only); first | (rw [if_pos (by omega), hts]; exact ⟨rfl, rfl⟩) | (rw [if_neg (by omega)]; exact ⟨rfl, rfl⟩)⟩
theorem m_pPart {G : Mem} (ha : R32 (G 0 10)) (hb : R32 (G 0 11)) {w : Int} (hw : R32 w) : MP M_X11_part [.ref 0, .int (iI w)] G (vl fun v g => if 0 ≤ w ∧ w ≤ 1 then ((if w = 0 then G 0 10 else G 0 11) = v ∧ G = g) else (-2 = v ∧ rB G = g)) := by
  refine MP.of [some (.ref 0), some (.int (iI w))] (plainFor_of_name pn_X11) (Nat.le_of_ble_eq_true rfl) rfl ?_
  refine k_iload_n dX11_part_0 rfl ?_
  refine k_callSi [.int (iI _)] dX11_part_1 s_X11_part_150 rfl (m_isZeroOrOne (by assumption)) rfl (Nat.le_of_ble_eq_true rfl) ?_
  rintro _ _ ⟨rfl, rfl⟩
  refine k_ifb_ne 15 dX11_part_4 (by decide) (fun h4 => ?_) (fun h4 => ?_)
  · skip
    refine k_iload_n dX11_part_15 rfl ?_
    refine k_if_ne 27 dX11_part_16 (by decide) ⟨by omega, by omega⟩ (fun h16 => ?_) (fun h16 => ?_)
    · skip
      refine k_aload_n dX11_part_27 rfl ?_
      refine k_getI dX11_part_28 f_X11_53 (Nat.le_of_ble_eq_true rfl) sh_o0 (fun _ => rfl) ?_
      refine k_i2l dX11_part_31 hb ?_
      exact k_lret dX11_part_32 rfl ⟨_, rfl, by (try dsimp only); first | (rw [if_pos (by omega), if_pos (by omega)]; exact ⟨rfl, rfl⟩) | (rw [if_pos (by omega), if_neg (by omega)]; exact ⟨rfl, rfl⟩) | (rw [if_neg (by omega)]; exact ⟨rfl, rfl⟩)⟩
    · skip
      refine k_aload_n dX11_part_19 rfl ?_
      refine k_getI dX11_part_20 f_X11_233 (Nat.le_of_ble_eq_true rfl) sh_o0 (fun _ => rfl) ?_
      refine k_i2l dX11_part_23 ha ?_
      refine k_goto 32 dX11_part_24 (by decide) ?_
      exact k_lret dX11_part_32 rfl ⟨_, rfl, by (try dsimp only); first | (rw [if_pos (by omega), if_pos (by omega)]; exact ⟨rfl, rfl⟩) | (rw [if_pos (by omega), if_neg (by omega)]; exact ⟨rfl, rfl⟩) | (rw [if_neg (by omega)]; exact ⟨rfl, rfl⟩)⟩
  · skip
    refine k_aload_n dX11_part_7 rfl ?_
    refine k_bipush dX11_part_8 (by decide) ?_
    refine k_callVi [.int (iI _)] dX11_part_10 s_X11_part_61 rfl m_refuseBad rfl (Nat.le_of_ble_eq_true rfl) sh_o0 ⟨_, rfl, rfl⟩ (Nat.le_of_ble_eq_true rfl) ?_
    rintro _ _ ⟨rfl, rfl⟩
    refine k_i2l dX11_part_13 ⟨by omega, by omega⟩ ?_
    exact k_lret dX11_part_14 rfl ⟨_, rfl, by (try dsimp only); first | (rw [if_pos (by omega), if_pos (by omega)]; exact ⟨rfl, rfl⟩) | (rw [if_pos (by omega), if_neg (by omega)]; exact ⟨rfl, rfl⟩) | (rw [if_neg (by omega)]; exact ⟨rfl, rfl⟩)⟩
theorem m_pImage {G : Mem} (hz1 : ∀ j, G (1 + 11) j = 0 ∨ G (1 + 11) j = 1) {w : Int} (hw : R32 w) : MP M_X11_image [.ref 0, .int (iI w)] G (vi fun v g => if 0 ≤ w ∧ w ≤ 1 then (1 = v ∧ (if w = 0 then ug (rCopy G 27 1) 0 4 1 else ug (rCopy G 40 1) 0 5 1) = g) else (-2 = v ∧ rB G = g)) := by
  refine MP.of [some (.ref 0), some (.int (iI w))] (plainFor_of_name pn_X11) (Nat.le_of_ble_eq_true rfl) rfl ?_
  refine k_iload_n dX11_image_0 rfl ?_
  refine k_callSi [.int (iI _)] dX11_image_1 s_X11_image_150 rfl (m_isZeroOrOne (by assumption)) rfl (Nat.le_of_ble_eq_true rfl) ?_
  rintro _ _ ⟨rfl, rfl⟩
  refine k_ifb_ne 14 dX11_image_4 (by decide) (fun h4 => ?_) (fun h4 => ?_)
  · skip
    refine k_iload_n dX11_image_14 rfl ?_
    refine k_if_ne 37 dX11_image_15 (by decide) ⟨by omega, by omega⟩ (fun h15 => ?_) (fun h15 => ?_)
    · skip
      refine k_aload_n dX11_image_37 rfl ?_
      refine k_getR dX11_image_38 f_X11_22 (Nat.le_of_ble_eq_true rfl) sh_o0 (fun _ => rfl) ?_
      refine k_aload_n dX11_image_41 rfl ?_
      refine k_getR dX11_image_42 f_X11_10 (Nat.le_of_ble_eq_true rfl) sh_o0 (fun _ => rfl) ?_
      refine k_callVv [.ref _] dX11_image_45 s_X11_image_124 rfl (m_copyFrom rd40 rd1 (by omega) hz1) rfl (Nat.le_of_ble_eq_true rfl) (Rd.o rd40) ⟨_, rfl, rfl⟩ (Nat.le_of_ble_eq_true rfl) ?_
      rintro _ rfl
      refine k_aload_n dX11_image_48 rfl ?_
      refine k_iconst dX11_image_49 ?_
      refine k_putI dX11_image_50 f_X11_240 (Nat.le_of_ble_eq_true rfl) sh_o0 (fun _ => (Nat.le_of_ble_eq_true rfl)) rfl (fun _ => rfl) ?_
      refine k_iconst dX11_image_53 ?_
      exact k_iret dX11_image_54 rfl ⟨_, rfl, by (try dsimp only); first | (exfalso; omega) | (rw [if_pos (by omega), if_pos (by omega)]; exact ⟨rfl, rfl⟩) | (rw [if_pos (by omega), if_neg (by omega)]; exact ⟨rfl, rfl⟩) | (rw [if_neg (by omega)]; exact ⟨rfl, rfl⟩)⟩
    · skip
      refine k_aload_n dX11_image_18 rfl ?_
      refine k_getR dX11_image_19 f_X11_19 (Nat.le_of_ble_eq_true rfl) sh_o0 (fun _ => rfl) ?_
      refine k_aload_n dX11_image_22 rfl ?_
      refine k_getR dX11_image_23 f_X11_10 (Nat.le_of_ble_eq_true rfl) sh_o0 (fun _ => rfl) ?_
      refine k_callVv [.ref _] dX11_image_26 s_X11_image_124 rfl (m_copyFrom rd27 rd1 (by omega) hz1) rfl (Nat.le_of_ble_eq_true rfl) (Rd.o rd27) ⟨_, rfl, rfl⟩ (Nat.le_of_ble_eq_true rfl) ?_
      rintro _ rfl
      refine k_aload_n dX11_image_29 rfl ?_
      refine k_iconst dX11_image_30 ?_
      refine k_putI dX11_image_31 f_X11_236 (Nat.le_of_ble_eq_true rfl) sh_o0 (fun _ => (Nat.le_of_ble_eq_true rfl)) rfl (fun _ => rfl) ?_
      refine k_goto 53 dX11_image_34 (by decide) ?_
      refine k_iconst dX11_image_53 ?_
      exact k_iret dX11_image_54 rfl ⟨_, rfl, by (try dsimp only); first | (exfalso; omega) | (rw [if_pos (by omega), if_pos (by omega)]; exact ⟨rfl, rfl⟩) | (rw [if_pos (by omega), if_neg (by omega)]; exact ⟨rfl, rfl⟩) | (rw [if_neg (by omega)]; exact ⟨rfl, rfl⟩)⟩
  · skip
    refine k_aload_n dX11_image_7 rfl ?_
    refine k_bipush dX11_image_8 (by decide) ?_
    refine k_callVi [.int (iI _)] dX11_image_10 s_X11_image_61 rfl m_refuseBad rfl (Nat.le_of_ble_eq_true rfl) sh_o0 ⟨_, rfl, rfl⟩ (Nat.le_of_ble_eq_true rfl) ?_
    rintro _ _ ⟨rfl, rfl⟩
    exact k_iret dX11_image_13 rfl ⟨_, rfl, by (try dsimp only); first | (exfalso; omega) | (rw [if_pos (by omega), if_pos (by omega)]; exact ⟨rfl, rfl⟩) | (rw [if_pos (by omega), if_neg (by omega)]; exact ⟨rfl, rfl⟩) | (rw [if_neg (by omega)]; exact ⟨rfl, rfl⟩)⟩
theorem m_pFrom {G : Mem} (h4 : G 0 4 = 0 ∨ G 0 4 = 1) (h5 : G 0 5 = 0 ∨ G 0 5 = 1) (hz27 : ∀ j, G (27 + 11) j = 0 ∨ G (27 + 11) j = 1) (hz40 : ∀ j, G (40 + 11) j = 0 ∨ G (40 + 11) j = 1) {w : Int} (hw : R32 w) : MP M_X11_from [.ref 0, .int (iI w)] G (vi fun v g => if 0 ≤ w ∧ w ≤ 1 then (if w = 0 then (if G 0 4 = 0 then (-3 = v ∧ rN G = g) else (1 = v ∧ rCopy G 1 27 = g)) else (if G 0 5 = 0 then (-3 = v ∧ rN G = g) else (1 = v ∧ rCopy G 1 40 = g))) else (-2 = v ∧ rB G = g)) := by
  refine MP.of [some (.ref 0), some (.int (iI w)), none] (plainFor_of_name pn_X11) (Nat.le_of_ble_eq_true rfl) rfl ?_
  refine k_iload_n dX11_from_0 rfl ?_
  refine k_callSi [.int (iI _)] dX11_from_1 s_X11_from_150 rfl (m_isZeroOrOne (by assumption)) rfl (Nat.le_of_ble_eq_true rfl) ?_
  rintro _ _ ⟨rfl, rfl⟩
  refine k_ifb_ne 14 dX11_from_4 (by decide) (fun h4 => ?_) (fun h4 => ?_)
  · skip
    refine k_iload_n dX11_from_14 rfl ?_
    refine k_if_ne 25 dX11_from_15 (by decide) ⟨by omega, by omega⟩ (fun h15 => ?_) (fun h15 => ?_)
    · skip
      refine k_aload_n dX11_from_25 rfl ?_
      refine k_getI dX11_from_26 f_X11_240 (Nat.le_of_ble_eq_true rfl) sh_o0 (fun _ => rfl) ?_
      refine k_istore_n (L' := [_, _, _]) dX11_from_29 (Nat.le_of_ble_eq_true rfl) rfl ?_
      refine k_iload_n dX11_from_30 rfl ?_
      refine k_if_ne 39 dX11_from_31 (by decide) ⟨by omega, by omega⟩ (fun h31 => ?_) (fun h31 => ?_)
      · skip
        refine k_aload_n dX11_from_39 rfl ?_
        refine k_getR dX11_from_40 f_X11_10 (Nat.le_of_ble_eq_true rfl) sh_o0 (fun _ => rfl) ?_
        refine k_iload_n dX11_from_43 rfl ?_
        refine k_if_ne 54 dX11_from_44 (by decide) ⟨by omega, by omega⟩ (fun h44 => ?_) (fun h44 => ?_)
        · skip
          refine k_aload_n dX11_from_54 rfl ?_
          refine k_getR dX11_from_55 f_X11_22 (Nat.le_of_ble_eq_true rfl) sh_o0 (fun _ => rfl) ?_
          refine k_callVv [.ref _] dX11_from_58 s_X11_from_124 rfl (m_copyFrom rd1 (by first | exact rd27 | exact rd40) (by omega) (by first | exact hz27 | exact hz40)) rfl (Nat.le_of_ble_eq_true rfl) (Rd.o rd1) ⟨_, rfl, rfl⟩ (Nat.le_of_ble_eq_true rfl) ?_
          rintro _ rfl
          refine k_iconst dX11_from_61 ?_
          exact k_iret dX11_from_62 rfl ⟨_, rfl, by (try dsimp only); first | (exfalso; omega) | (rw [if_pos (by omega), if_pos (by omega), if_pos (by omega)]; exact ⟨rfl, rfl⟩) | (rw [if_pos (by omega), if_pos (by omega), if_neg (by omega)]; exact ⟨rfl, rfl⟩) | (rw [if_pos (by omega), if_neg (by omega), if_pos (by omega)]; exact ⟨rfl, rfl⟩) | (rw [if_pos (by omega), if_neg (by omega), if_neg (by omega)]; exact ⟨rfl, rfl⟩) | (rw [if_neg (by omega)]; exact ⟨rfl, rfl⟩)⟩
        · skip
          refine k_aload_n dX11_from_47 rfl ?_
          refine k_getR dX11_from_48 f_X11_19 (Nat.le_of_ble_eq_true rfl) sh_o0 (fun _ => rfl) ?_
          refine k_goto 58 dX11_from_51 (by decide) ?_
          refine k_callVv [.ref _] dX11_from_58 s_X11_from_124 rfl (m_copyFrom rd1 (by first | exact rd27 | exact rd40) (by omega) (by first | exact hz27 | exact hz40)) rfl (Nat.le_of_ble_eq_true rfl) (Rd.o rd1) ⟨_, rfl, rfl⟩ (Nat.le_of_ble_eq_true rfl) ?_
          rintro _ rfl
          refine k_iconst dX11_from_61 ?_
          exact k_iret dX11_from_62 rfl ⟨_, rfl, by (try dsimp only); first | (exfalso; omega) | (rw [if_pos (by omega), if_pos (by omega), if_pos (by omega)]; exact ⟨rfl, rfl⟩) | (rw [if_pos (by omega), if_pos (by omega), if_neg (by omega)]; exact ⟨rfl, rfl⟩) | (rw [if_pos (by omega), if_neg (by omega), if_pos (by omega)]; exact ⟨rfl, rfl⟩) | (rw [if_pos (by omega), if_neg (by omega), if_neg (by omega)]; exact ⟨rfl, rfl⟩) | (rw [if_neg (by omega)]; exact ⟨rfl, rfl⟩)⟩
      · skip
        refine k_aload_n dX11_from_34 rfl ?_
        refine k_callVi [] dX11_from_35 s_X11_from_107 rfl m_refuseNo rfl (Nat.le_of_ble_eq_true rfl) sh_o0 ⟨_, rfl, rfl⟩ (Nat.le_of_ble_eq_true rfl) ?_
        rintro _ _ ⟨rfl, rfl⟩
        exact k_iret dX11_from_38 rfl ⟨_, rfl, by (try dsimp only); first | (exfalso; omega) | (rw [if_pos (by omega), if_pos (by omega), if_pos (by omega)]; exact ⟨rfl, rfl⟩) | (rw [if_pos (by omega), if_pos (by omega), if_neg (by omega)]; exact ⟨rfl, rfl⟩) | (rw [if_pos (by omega), if_neg (by omega), if_pos (by omega)]; exact ⟨rfl, rfl⟩) | (rw [if_pos (by omega), if_neg (by omega), if_neg (by omega)]; exact ⟨rfl, rfl⟩) | (rw [if_neg (by omega)]; exact ⟨rfl, rfl⟩)⟩
    · skip
      refine k_aload_n dX11_from_18 rfl ?_
      refine k_getI dX11_from_19 f_X11_236 (Nat.le_of_ble_eq_true rfl) sh_o0 (fun _ => rfl) ?_
      refine k_goto 29 dX11_from_22 (by decide) ?_
      refine k_istore_n (L' := [_, _, _]) dX11_from_29 (Nat.le_of_ble_eq_true rfl) rfl ?_
      refine k_iload_n dX11_from_30 rfl ?_
      refine k_if_ne 39 dX11_from_31 (by decide) ⟨by omega, by omega⟩ (fun h31 => ?_) (fun h31 => ?_)
      · skip
        refine k_aload_n dX11_from_39 rfl ?_
        refine k_getR dX11_from_40 f_X11_10 (Nat.le_of_ble_eq_true rfl) sh_o0 (fun _ => rfl) ?_
        refine k_iload_n dX11_from_43 rfl ?_
        refine k_if_ne 54 dX11_from_44 (by decide) ⟨by omega, by omega⟩ (fun h44 => ?_) (fun h44 => ?_)
        · skip
          refine k_aload_n dX11_from_54 rfl ?_
          refine k_getR dX11_from_55 f_X11_22 (Nat.le_of_ble_eq_true rfl) sh_o0 (fun _ => rfl) ?_
          refine k_callVv [.ref _] dX11_from_58 s_X11_from_124 rfl (m_copyFrom rd1 (by first | exact rd27 | exact rd40) (by omega) (by first | exact hz27 | exact hz40)) rfl (Nat.le_of_ble_eq_true rfl) (Rd.o rd1) ⟨_, rfl, rfl⟩ (Nat.le_of_ble_eq_true rfl) ?_
          rintro _ rfl
          refine k_iconst dX11_from_61 ?_
          exact k_iret dX11_from_62 rfl ⟨_, rfl, by (try dsimp only); first | (exfalso; omega) | (rw [if_pos (by omega), if_pos (by omega), if_pos (by omega)]; exact ⟨rfl, rfl⟩) | (rw [if_pos (by omega), if_pos (by omega), if_neg (by omega)]; exact ⟨rfl, rfl⟩) | (rw [if_pos (by omega), if_neg (by omega), if_pos (by omega)]; exact ⟨rfl, rfl⟩) | (rw [if_pos (by omega), if_neg (by omega), if_neg (by omega)]; exact ⟨rfl, rfl⟩) | (rw [if_neg (by omega)]; exact ⟨rfl, rfl⟩)⟩
        · skip
          refine k_aload_n dX11_from_47 rfl ?_
          refine k_getR dX11_from_48 f_X11_19 (Nat.le_of_ble_eq_true rfl) sh_o0 (fun _ => rfl) ?_
          refine k_goto 58 dX11_from_51 (by decide) ?_
          refine k_callVv [.ref _] dX11_from_58 s_X11_from_124 rfl (m_copyFrom rd1 (by first | exact rd27 | exact rd40) (by omega) (by first | exact hz27 | exact hz40)) rfl (Nat.le_of_ble_eq_true rfl) (Rd.o rd1) ⟨_, rfl, rfl⟩ (Nat.le_of_ble_eq_true rfl) ?_
          rintro _ rfl
          refine k_iconst dX11_from_61 ?_
          exact k_iret dX11_from_62 rfl ⟨_, rfl, by (try dsimp only); first | (exfalso; omega) | (rw [if_pos (by omega), if_pos (by omega), if_pos (by omega)]; exact ⟨rfl, rfl⟩) | (rw [if_pos (by omega), if_pos (by omega), if_neg (by omega)]; exact ⟨rfl, rfl⟩) | (rw [if_pos (by omega), if_neg (by omega), if_pos (by omega)]; exact ⟨rfl, rfl⟩) | (rw [if_pos (by omega), if_neg (by omega), if_neg (by omega)]; exact ⟨rfl, rfl⟩) | (rw [if_neg (by omega)]; exact ⟨rfl, rfl⟩)⟩
      · skip
        refine k_aload_n dX11_from_34 rfl ?_
        refine k_callVi [] dX11_from_35 s_X11_from_107 rfl m_refuseNo rfl (Nat.le_of_ble_eq_true rfl) sh_o0 ⟨_, rfl, rfl⟩ (Nat.le_of_ble_eq_true rfl) ?_
        rintro _ _ ⟨rfl, rfl⟩
        exact k_iret dX11_from_38 rfl ⟨_, rfl, by (try dsimp only); first | (exfalso; omega) | (rw [if_pos (by omega), if_pos (by omega), if_pos (by omega)]; exact ⟨rfl, rfl⟩) | (rw [if_pos (by omega), if_pos (by omega), if_neg (by omega)]; exact ⟨rfl, rfl⟩) | (rw [if_pos (by omega), if_neg (by omega), if_pos (by omega)]; exact ⟨rfl, rfl⟩) | (rw [if_pos (by omega), if_neg (by omega), if_neg (by omega)]; exact ⟨rfl, rfl⟩) | (rw [if_neg (by omega)]; exact ⟨rfl, rfl⟩)⟩
  · skip
    refine k_aload_n dX11_from_7 rfl ?_
    refine k_bipush dX11_from_8 (by decide) ?_
    refine k_callVi [.int (iI _)] dX11_from_10 s_X11_from_61 rfl m_refuseBad rfl (Nat.le_of_ble_eq_true rfl) sh_o0 ⟨_, rfl, rfl⟩ (Nat.le_of_ble_eq_true rfl) ?_
    rintro _ _ ⟨rfl, rfl⟩
    exact k_iret dX11_from_13 rfl ⟨_, rfl, by (try dsimp only); first | (exfalso; omega) | (rw [if_pos (by omega), if_pos (by omega), if_pos (by omega)]; exact ⟨rfl, rfl⟩) | (rw [if_pos (by omega), if_pos (by omega), if_neg (by omega)]; exact ⟨rfl, rfl⟩) | (rw [if_pos (by omega), if_neg (by omega), if_pos (by omega)]; exact ⟨rfl, rfl⟩) | (rw [if_pos (by omega), if_neg (by omega), if_neg (by omega)]; exact ⟨rfl, rfl⟩) | (rw [if_neg (by omega)]; exact ⟨rfl, rfl⟩)⟩
