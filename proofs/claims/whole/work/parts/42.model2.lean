/-! ===== the Model: what is at hand ===== -/
/-- now's first scalars and children are those of the view -/
def NW (V : Mem) (G : Mem) : Prop := (G 87 0 = V 0 2 ∧ G 87 1 = V 0 0 ∧ G 87 2 = V 0 1) ∧ ∀ i : Nat, (i : Int) < V 0 2 → G 87 (6 + 5 * i + 0) = V 1 i ∧ G 87 (6 + 5 * i + 1) = V 2 i ∧ G 87 (6 + 5 * i + 2) = V 3 i ∧ G 87 (6 + 5 * i + 3) = V 4 i ∧ G 87 (6 + 5 * i + 4) = V 5 i
/-- what is at hand: kinds, cells, who is there -/
def HD (V : Mem) (set : Nat) (G : Mem) : Prop := (G 87 0 = V 0 2 ∧ G 87 1 = V 0 0 ∧ G 87 2 = V 0 1) ∧ G 86 8 = (set : Int) ∧ ∀ i : Nat, (i : Int) < V 0 2 → G 91 i = V 1 i ∧ G 87 (6 + 5 * i + 1) = V 2 i ∧ G 92 i = V 3 i ∧ G 87 (6 + 5 * i + 3) = V 4 i ∧ G 87 (6 + 5 * i + 4) = V 5 i
/-- only what is at hand has changed -/
def HF (G g : Mem) : Prop := ∀ a b, a ≠ 91 → a ≠ 92 → ¬ (a = 86 ∧ b = 8) → g a b = G a b
theorem NW.hf {V G g : Mem} (h : NW V G) (k : HF G g) : NW V g := by
  have e : ∀ b, g 87 b = G 87 b := fun b => k 87 b (by decide) (by decide) (by omega)
  unfold NW
  simp only [e]
  exact h
theorem HF.rf {G : Mem} : HF G G := fun _ _ _ _ _ => rfl
theorem HF.tr {G g k : Mem} (h1 : HF G g) (h2 : HF g k) : HF G k := fun a b x y z => (h2 a b x y z).trans (h1 a b x y z)
theorem NW.all {V G : Mem} (h : NW V G) (hV : Vok V) : MP M_X12_all [.ref 86] G (vx (vAll V : Int) G) := by
  have k := m_xAll (G := G) (by rw [h.1.1]; exact hV.2.2.1)
  rw [h.1.1] at k
  exact k
theorem lp_layHand {V G : Mem} (hV : Vok V) (hN : NW V G) {s : Option Value} {set : Nat} (hs : s = some (.int (iI (set : Int)))) : ∀ i : Nat, i ≤ (V 0 2).toNat → ∀ g : Mem, HF G g → (∀ j : Nat, j < i → g 91 j = V 1 j ∧ g 92 j = V 3 j) → RP M_X12_layHand 2 [some (.ref 86), s, some (.int (iI (i : Int)))] [] g (vv fun g1 => HF G g1 ∧ HD V set g1) := by
  subst hs
  have hn := hV.2.2.1
  refine cnt (fun g hF hI => ?_) (fun i hi ih g hF hI => ?_)
  · have hN1 := hN.hf hF
    have h0 := hN1.1.1
    refine k_iload_n dX12_layHand_2 rfl ?_
    refine k_aload_n dX12_layHand_3 rfl ?_
    refine k_callVi [] dX12_layHand_4 s_X12_layHand_61 rfl m_xChildren rfl (Nat.le_of_ble_eq_true rfl) sh_o86 ⟨_, rfl, rfl⟩ (Nat.le_of_ble_eq_true rfl) ?_
    rintro _ _ ⟨rfl, rfl⟩
    refine k_icmp_ge 40 dX12_layHand_7 (by decide) ⟨by omega, by omega⟩ ⟨by omega, by omega⟩ (fun h7 => ?_) (fun h7 => absurd h7 (by omega))
    refine k_aload_n dX12_layHand_40 rfl ?_
    refine k_iload_n dX12_layHand_41 rfl ?_
    refine k_putI dX12_layHand_42 f_X12_115 (Nat.le_of_ble_eq_true rfl) sh_o86 (fun _ => (Nat.le_of_ble_eq_true rfl)) rfl (fun _ => rfl) ?_
    exact k_ret dX12_layHand_45 rfl ⟨rfl, fun a b x y z => by rw [ug_ne z]; exact hF a b x y z, hN1.1, by rw [ug_at], by intro i h; have k := hN1.2 i h; have k2 := hI i (by omega); simp (disch := omega) only [ug_nc]; exact ⟨k2.1, k.2.1, k2.2, k.2.2.2.1, k.2.2.2.2⟩⟩
  · have hN1 := hN.hf hF
    have h0 := hN1.1.1
    have k := hN1.2 i (by omega)
    refine k_iload_n dX12_layHand_2 rfl ?_
    refine k_aload_n dX12_layHand_3 rfl ?_
    refine k_callVi [] dX12_layHand_4 s_X12_layHand_61 rfl m_xChildren rfl (Nat.le_of_ble_eq_true rfl) sh_o86 ⟨_, rfl, rfl⟩ (Nat.le_of_ble_eq_true rfl) ?_
    rintro _ _ ⟨rfl, rfl⟩
    refine k_icmp_ge 40 dX12_layHand_7 (by decide) ⟨by omega, by omega⟩ ⟨by omega, by omega⟩ (fun h7 => absurd h7 (by omega)) (fun h7 => ?_)
    refine k_aload_n dX12_layHand_10 rfl ?_
    refine k_getR dX12_layHand_11 f_X12_27 (Nat.le_of_ble_eq_true rfl) sh_o86 (fun _ => rfl) ?_
    refine k_iload_n dX12_layHand_14 rfl ?_
    refine k_aload_n dX12_layHand_15 rfl ?_
    refine k_iload_n dX12_layHand_16 rfl ?_
    refine k_iconst dX12_layHand_17 ?_
    refine k_callVi [.int (iI _), .int (iI _)] dX12_layHand_18 s_X12_layHand_98 rfl (m_xGet0 (by omega)) rfl (Nat.le_of_ble_eq_true rfl) sh_o86 ⟨_, rfl, rfl⟩ (Nat.le_of_ble_eq_true rfl) ?_
    rintro _ _ ⟨rfl, rfl⟩
    refine k_iast i dX12_layHand_21 (Nat.le_of_ble_eq_true rfl) sh_a91 (by decide) (by omega) (by omega) ?_
    refine k_aload_n dX12_layHand_22 rfl ?_
    refine k_getR dX12_layHand_23 f_X12_30 (Nat.le_of_ble_eq_true rfl) sh_o86 (fun _ => rfl) ?_
    refine k_iload_n dX12_layHand_26 rfl ?_
    refine k_aload_n dX12_layHand_27 rfl ?_
    refine k_iload_n dX12_layHand_28 rfl ?_
    refine k_iconst dX12_layHand_29 ?_
    refine k_callVi [.int (iI _), .int (iI _)] dX12_layHand_30 s_X12_layHand_98 rfl (m_xGet2 (by omega)) rfl (Nat.le_of_ble_eq_true rfl) sh_o86 ⟨_, rfl, rfl⟩ (Nat.le_of_ble_eq_true rfl) ?_
    rintro _ _ ⟨rfl, rfl⟩
    refine k_iast i dX12_layHand_33 (Nat.le_of_ble_eq_true rfl) sh_a92 (by decide) (by omega) (by omega) ?_
    simp (disch := omega) only [ug_nc]
    refine k_iinc (L' := [_, _, _]) dX12_layHand_34 rfl (Nat.le_of_ble_eq_true rfl) rfl ?_
    refine k_goto 2 dX12_layHand_37 (by decide) ?_
    refine ih _ (fun a b x y z => by rw [ug_nc y, ug_nc x]; exact hF a b x y z) (fun j hj => ?_)
    simp (disch := omega) only [ug_nc]
    by_cases e : j = i
    · subst e
      rw [ug_at, ug_at]
      exact ⟨k.1, k.2.2.1⟩
    · have q := hI j (by omega)
      rw [ug_np e, ug_np e]
      exact q
theorem m_xLayHand {V G : Mem} (hV : Vok V) (hN : NW V G) {set : Nat} : MP M_X12_layHand [.ref 86, .int (iI (set : Int))] G (vv fun g => HF G g ∧ HD V set g) := by
  refine MP.of [some (.ref 86), some (.int (iI (set : Int))), none] (plainFor_of_name pn_X12) (Nat.le_of_ble_eq_true rfl) rfl ?_
  refine k_iconst dX12_layHand_0 ?_
  refine k_istore_n (L' := [_, _, _]) dX12_layHand_1 (Nat.le_of_ble_eq_true rfl) rfl ?_
  exact lp_layHand hV hN rfl 0 (Nat.zero_le _) G HF.rf (fun j hj => absurd hj (by omega))
def q_ct (k h t : Int) : Int := if k = 1 then min 9 (h + 2) else if k = 3 then max 1 (min 9 (h + 2) / 2) else if k = 4 then min 9 (h + t / 15) else h
theorem q_ct_b {k h t : Int} (hh : 0 ≤ h ∧ h ≤ 9) (ht : 0 ≤ t ∧ t ≤ 60) : 0 ≤ q_ct k h t ∧ q_ct k h t ≤ 9 := by
  unfold q_ct
  repeat' split
  all_goals omega
theorem q_ct_h {k h b t : Int} (hk : 0 < q_hi k h b t) : q_hi k h b t = q_ct k h t := by
  unfold q_hi q_hgh at hk ⊢
  unfold q_ct
  repeat' split at hk
  all_goals (repeat' split) <;> omega
theorem q_hi_p {k h b t : Int} (hh : 1 ≤ h ∧ h ≤ 9) (ht : 0 ≤ t ∧ t ≤ 60) : 0 < q_hi k h b t ↔ t < b ∧ (k = 5 → t < 20) := by
  unfold q_hi q_hgh
  repeat' split
  all_goals omega
theorem m_xCellOf {V G : Mem} {set : Nat} (hV : Vok V) (hset : set < 64) (hH : HD V set G) {i : Nat} (hi : (i : Int) < V 0 2) {t : Int} (ht : 0 ≤ t ∧ t ≤ 60)  : MP M_X12_cellOf [.ref 86, .int (iI (i : Int)), .int (iI t)] G (vx (vP V t i) G) := by
  have hn := hV.2.2.1
  have hk := hV.2.2.2 i
  have hh := hH.2.2 i hi
  have hp := hH.2.1
  have hst := mulb hk.2.2.2.1 ht
  rw [← hh.2.2.2.1] at hst
  refine MP.of [some (.ref 86), some (.int (iI (i : Int))), some (.int (iI t)), none, none] (plainFor_of_name pn_X12) (Nat.le_of_ble_eq_true rfl) rfl ?_
  refine k_aload_n dX12_cellOf_0 rfl ?_
  refine k_getR dX12_cellOf_1 f_X12_27 (Nat.le_of_ble_eq_true rfl) sh_o86 (fun _ => rfl) ?_
  refine k_iload_n dX12_cellOf_4 rfl ?_
  refine k_iald i dX12_cellOf_5 (Nat.le_of_ble_eq_true rfl) sh_a91 (by decide) (by omega) (by omega) ?_
  refine k_iconst dX12_cellOf_6 ?_
  refine k_icmp_eq 20 dX12_cellOf_7 (by decide) ⟨by omega, by omega⟩ ⟨by decide, by decide⟩ (fun h7 => ?_) (fun h7 => ?_)
  · skip
    refine k_iconst dX12_cellOf_20 ?_
    refine k_goto 25 dX12_cellOf_21 (by decide) ?_
    refine k_istore_n (L' := [_, _, _, _, _]) dX12_cellOf_25 (Nat.le_of_ble_eq_true rfl) rfl ?_
    refine k_aload_n dX12_cellOf_26 rfl ?_
    refine k_getR dX12_cellOf_27 f_X12_30 (Nat.le_of_ble_eq_true rfl) sh_o86 (fun _ => rfl) ?_
    refine k_iload_n dX12_cellOf_30 rfl ?_
    refine k_iald i dX12_cellOf_31 (Nat.le_of_ble_eq_true rfl) sh_a92 (by decide) (by omega) (by omega) ?_
    refine k_aload_n dX12_cellOf_32 rfl ?_
    refine k_iload_n dX12_cellOf_33 rfl ?_
    refine k_iconst dX12_cellOf_34 ?_
    refine k_callVi [.int (iI _), .int (iI _)] dX12_cellOf_35 s_X12_cellOf_98 rfl (m_xGet3 (by omega)) rfl (Nat.le_of_ble_eq_true rfl) sh_o86 ⟨_, rfl, rfl⟩ (Nat.le_of_ble_eq_true rfl) ?_
    rintro _ _ ⟨rfl, rfl⟩
    refine k_iload_n dX12_cellOf_38 rfl ?_
    refine k_if_eq 48 dX12_cellOf_39 (by decide) ⟨by decide, by decide⟩ (fun h39 => ?_) (fun h39 => ?_)
    · skip
      refine k_iload_n dX12_cellOf_48 rfl ?_
      have hx : G 87 (6 + 5 * i + 3) * (if (G 91 i = 2 ∨ G 91 i = 5) then t % 2 else t) ≤ 180 ∧ 0 ≤ G 87 (6 + 5 * i + 3) * (if (G 91 i = 2 ∨ G 91 i = 5) then t % 2 else t) := by
        have k0 := mulb (s := G 87 (6 + 5 * i + 3)) (t := t % 2) (by omega) (by omega)
        split
        · exact ⟨k0.2, k0.1⟩
        · exact ⟨hst.2, hst.1⟩
      have hq : vP V t i = min 47 (G 92 i + G 87 (6 + 5 * i + 3) * (if (G 91 i = 2 ∨ G 91 i = 5) then t % 2 else t)) := by
        show q_pos (V 1 i) (V 3 i) (V 4 i) t = _
        unfold q_pos
        rw [← hh.1, ← hh.2.2.1, ← hh.2.2.2.1]
        have hc : 0 ≤ G 92 i ∧ G 92 i ≤ 47 := by omega
        split
        · rcases (show t % 2 = 0 ∨ t % 2 = 1 by omega) with z | z
          · rw [z, if_pos rfl]; omega
          · rw [z, if_neg (by decide)]; omega
        · rfl
      first | rw [if_pos (by omega)] at hx hq | rw [if_neg (by omega)] at hx hq
      refine k_imul dX12_cellOf_49 ?_
      refine k_iadd dX12_cellOf_50 ?_
      refine k_istore (L' := [_, _, _, _, _]) dX12_cellOf_51 (Nat.le_of_ble_eq_true rfl) rfl ?_
      refine k_iload dX12_cellOf_53 rfl ?_
      refine k_bipush dX12_cellOf_55 (by decide) ?_
      refine k_icmp_le 65 dX12_cellOf_57 (by decide) ⟨by omega, by omega⟩ ⟨by decide, by decide⟩ (fun h57 => ?_) (fun h57 => ?_)
      · skip
        refine k_iload dX12_cellOf_65 rfl ?_
        exact k_iret dX12_cellOf_67 rfl ⟨_, rfl, by rw [hq]; omega, rfl⟩
      · skip
        refine k_bipush dX12_cellOf_60 (by decide) ?_
        refine k_goto 67 dX12_cellOf_62 (by decide) ?_
        exact k_iret dX12_cellOf_67 rfl ⟨_, rfl, by rw [hq]; omega, rfl⟩
    · skip
      refine k_iload_n dX12_cellOf_42 rfl ?_
      refine k_iconst dX12_cellOf_43 ?_
      refine k_irem dX12_cellOf_44 (by omega) (by omega) ?_
      refine k_goto 49 dX12_cellOf_45 (by decide) ?_
      have hx : G 87 (6 + 5 * i + 3) * (if (G 91 i = 2 ∨ G 91 i = 5) then t % 2 else t) ≤ 180 ∧ 0 ≤ G 87 (6 + 5 * i + 3) * (if (G 91 i = 2 ∨ G 91 i = 5) then t % 2 else t) := by
        have k0 := mulb (s := G 87 (6 + 5 * i + 3)) (t := t % 2) (by omega) (by omega)
        split
        · exact ⟨k0.2, k0.1⟩
        · exact ⟨hst.2, hst.1⟩
      have hq : vP V t i = min 47 (G 92 i + G 87 (6 + 5 * i + 3) * (if (G 91 i = 2 ∨ G 91 i = 5) then t % 2 else t)) := by
        show q_pos (V 1 i) (V 3 i) (V 4 i) t = _
        unfold q_pos
        rw [← hh.1, ← hh.2.2.1, ← hh.2.2.2.1]
        have hc : 0 ≤ G 92 i ∧ G 92 i ≤ 47 := by omega
        split
        · rcases (show t % 2 = 0 ∨ t % 2 = 1 by omega) with z | z
          · rw [z, if_pos rfl]; omega
          · rw [z, if_neg (by decide)]; omega
        · rfl
      first | rw [if_pos (by omega)] at hx hq | rw [if_neg (by omega)] at hx hq
      refine k_imul dX12_cellOf_49 ?_
      refine k_iadd dX12_cellOf_50 ?_
      refine k_istore (L' := [_, _, _, _, _]) dX12_cellOf_51 (Nat.le_of_ble_eq_true rfl) rfl ?_
      refine k_iload dX12_cellOf_53 rfl ?_
      refine k_bipush dX12_cellOf_55 (by decide) ?_
      refine k_icmp_le 65 dX12_cellOf_57 (by decide) ⟨by omega, by omega⟩ ⟨by decide, by decide⟩ (fun h57 => ?_) (fun h57 => ?_)
      · skip
        refine k_iload dX12_cellOf_65 rfl ?_
        exact k_iret dX12_cellOf_67 rfl ⟨_, rfl, by rw [hq]; omega, rfl⟩
      · skip
        refine k_bipush dX12_cellOf_60 (by decide) ?_
        refine k_goto 67 dX12_cellOf_62 (by decide) ?_
        exact k_iret dX12_cellOf_67 rfl ⟨_, rfl, by rw [hq]; omega, rfl⟩
  · skip
    refine k_aload_n dX12_cellOf_10 rfl ?_
    refine k_getR dX12_cellOf_11 f_X12_27 (Nat.le_of_ble_eq_true rfl) sh_o86 (fun _ => rfl) ?_
    refine k_iload_n dX12_cellOf_14 rfl ?_
    refine k_iald i dX12_cellOf_15 (Nat.le_of_ble_eq_true rfl) sh_a91 (by decide) (by omega) (by omega) ?_
    refine k_iconst dX12_cellOf_16 ?_
    refine k_icmp_ne 24 dX12_cellOf_17 (by decide) ⟨by omega, by omega⟩ ⟨by decide, by decide⟩ (fun h17 => ?_) (fun h17 => ?_)
    · skip
      refine k_iconst dX12_cellOf_24 ?_
      refine k_istore_n (L' := [_, _, _, _, _]) dX12_cellOf_25 (Nat.le_of_ble_eq_true rfl) rfl ?_
      refine k_aload_n dX12_cellOf_26 rfl ?_
      refine k_getR dX12_cellOf_27 f_X12_30 (Nat.le_of_ble_eq_true rfl) sh_o86 (fun _ => rfl) ?_
      refine k_iload_n dX12_cellOf_30 rfl ?_
      refine k_iald i dX12_cellOf_31 (Nat.le_of_ble_eq_true rfl) sh_a92 (by decide) (by omega) (by omega) ?_
      refine k_aload_n dX12_cellOf_32 rfl ?_
      refine k_iload_n dX12_cellOf_33 rfl ?_
      refine k_iconst dX12_cellOf_34 ?_
      refine k_callVi [.int (iI _), .int (iI _)] dX12_cellOf_35 s_X12_cellOf_98 rfl (m_xGet3 (by omega)) rfl (Nat.le_of_ble_eq_true rfl) sh_o86 ⟨_, rfl, rfl⟩ (Nat.le_of_ble_eq_true rfl) ?_
      rintro _ _ ⟨rfl, rfl⟩
      refine k_iload_n dX12_cellOf_38 rfl ?_
      refine k_if_eq 48 dX12_cellOf_39 (by decide) ⟨by decide, by decide⟩ (fun h39 => ?_) (fun h39 => ?_)
      · skip
        refine k_iload_n dX12_cellOf_48 rfl ?_
        have hx : G 87 (6 + 5 * i + 3) * (if (G 91 i = 2 ∨ G 91 i = 5) then t % 2 else t) ≤ 180 ∧ 0 ≤ G 87 (6 + 5 * i + 3) * (if (G 91 i = 2 ∨ G 91 i = 5) then t % 2 else t) := by
          have k0 := mulb (s := G 87 (6 + 5 * i + 3)) (t := t % 2) (by omega) (by omega)
          split
          · exact ⟨k0.2, k0.1⟩
          · exact ⟨hst.2, hst.1⟩
        have hq : vP V t i = min 47 (G 92 i + G 87 (6 + 5 * i + 3) * (if (G 91 i = 2 ∨ G 91 i = 5) then t % 2 else t)) := by
          show q_pos (V 1 i) (V 3 i) (V 4 i) t = _
          unfold q_pos
          rw [← hh.1, ← hh.2.2.1, ← hh.2.2.2.1]
          have hc : 0 ≤ G 92 i ∧ G 92 i ≤ 47 := by omega
          split
          · rcases (show t % 2 = 0 ∨ t % 2 = 1 by omega) with z | z
            · rw [z, if_pos rfl]; omega
            · rw [z, if_neg (by decide)]; omega
          · rfl
        first | rw [if_pos (by omega)] at hx hq | rw [if_neg (by omega)] at hx hq
        refine k_imul dX12_cellOf_49 ?_
        refine k_iadd dX12_cellOf_50 ?_
        refine k_istore (L' := [_, _, _, _, _]) dX12_cellOf_51 (Nat.le_of_ble_eq_true rfl) rfl ?_
        refine k_iload dX12_cellOf_53 rfl ?_
        refine k_bipush dX12_cellOf_55 (by decide) ?_
        refine k_icmp_le 65 dX12_cellOf_57 (by decide) ⟨by omega, by omega⟩ ⟨by decide, by decide⟩ (fun h57 => ?_) (fun h57 => ?_)
        · skip
          refine k_iload dX12_cellOf_65 rfl ?_
          exact k_iret dX12_cellOf_67 rfl ⟨_, rfl, by rw [hq]; omega, rfl⟩
        · skip
          refine k_bipush dX12_cellOf_60 (by decide) ?_
          refine k_goto 67 dX12_cellOf_62 (by decide) ?_
          exact k_iret dX12_cellOf_67 rfl ⟨_, rfl, by rw [hq]; omega, rfl⟩
      · skip
        refine k_iload_n dX12_cellOf_42 rfl ?_
        refine k_iconst dX12_cellOf_43 ?_
        refine k_irem dX12_cellOf_44 (by omega) (by omega) ?_
        refine k_goto 49 dX12_cellOf_45 (by decide) ?_
        have hx : G 87 (6 + 5 * i + 3) * (if (G 91 i = 2 ∨ G 91 i = 5) then t % 2 else t) ≤ 180 ∧ 0 ≤ G 87 (6 + 5 * i + 3) * (if (G 91 i = 2 ∨ G 91 i = 5) then t % 2 else t) := by
          have k0 := mulb (s := G 87 (6 + 5 * i + 3)) (t := t % 2) (by omega) (by omega)
          split
          · exact ⟨k0.2, k0.1⟩
          · exact ⟨hst.2, hst.1⟩
        have hq : vP V t i = min 47 (G 92 i + G 87 (6 + 5 * i + 3) * (if (G 91 i = 2 ∨ G 91 i = 5) then t % 2 else t)) := by
          show q_pos (V 1 i) (V 3 i) (V 4 i) t = _
          unfold q_pos
          rw [← hh.1, ← hh.2.2.1, ← hh.2.2.2.1]
          have hc : 0 ≤ G 92 i ∧ G 92 i ≤ 47 := by omega
          split
          · rcases (show t % 2 = 0 ∨ t % 2 = 1 by omega) with z | z
            · rw [z, if_pos rfl]; omega
            · rw [z, if_neg (by decide)]; omega
          · rfl
        first | rw [if_pos (by omega)] at hx hq | rw [if_neg (by omega)] at hx hq
        refine k_imul dX12_cellOf_49 ?_
        refine k_iadd dX12_cellOf_50 ?_
        refine k_istore (L' := [_, _, _, _, _]) dX12_cellOf_51 (Nat.le_of_ble_eq_true rfl) rfl ?_
        refine k_iload dX12_cellOf_53 rfl ?_
        refine k_bipush dX12_cellOf_55 (by decide) ?_
        refine k_icmp_le 65 dX12_cellOf_57 (by decide) ⟨by omega, by omega⟩ ⟨by decide, by decide⟩ (fun h57 => ?_) (fun h57 => ?_)
        · skip
          refine k_iload dX12_cellOf_65 rfl ?_
          exact k_iret dX12_cellOf_67 rfl ⟨_, rfl, by rw [hq]; omega, rfl⟩
        · skip
          refine k_bipush dX12_cellOf_60 (by decide) ?_
          refine k_goto 67 dX12_cellOf_62 (by decide) ?_
          exact k_iret dX12_cellOf_67 rfl ⟨_, rfl, by rw [hq]; omega, rfl⟩
    · skip
      refine k_iconst dX12_cellOf_20 ?_
      refine k_goto 25 dX12_cellOf_21 (by decide) ?_
      refine k_istore_n (L' := [_, _, _, _, _]) dX12_cellOf_25 (Nat.le_of_ble_eq_true rfl) rfl ?_
      refine k_aload_n dX12_cellOf_26 rfl ?_
      refine k_getR dX12_cellOf_27 f_X12_30 (Nat.le_of_ble_eq_true rfl) sh_o86 (fun _ => rfl) ?_
      refine k_iload_n dX12_cellOf_30 rfl ?_
      refine k_iald i dX12_cellOf_31 (Nat.le_of_ble_eq_true rfl) sh_a92 (by decide) (by omega) (by omega) ?_
      refine k_aload_n dX12_cellOf_32 rfl ?_
      refine k_iload_n dX12_cellOf_33 rfl ?_
      refine k_iconst dX12_cellOf_34 ?_
      refine k_callVi [.int (iI _), .int (iI _)] dX12_cellOf_35 s_X12_cellOf_98 rfl (m_xGet3 (by omega)) rfl (Nat.le_of_ble_eq_true rfl) sh_o86 ⟨_, rfl, rfl⟩ (Nat.le_of_ble_eq_true rfl) ?_
      rintro _ _ ⟨rfl, rfl⟩
      refine k_iload_n dX12_cellOf_38 rfl ?_
      refine k_if_eq 48 dX12_cellOf_39 (by decide) ⟨by decide, by decide⟩ (fun h39 => ?_) (fun h39 => ?_)
      · skip
        refine k_iload_n dX12_cellOf_48 rfl ?_
        have hx : G 87 (6 + 5 * i + 3) * (if (G 91 i = 2 ∨ G 91 i = 5) then t % 2 else t) ≤ 180 ∧ 0 ≤ G 87 (6 + 5 * i + 3) * (if (G 91 i = 2 ∨ G 91 i = 5) then t % 2 else t) := by
          have k0 := mulb (s := G 87 (6 + 5 * i + 3)) (t := t % 2) (by omega) (by omega)
          split
          · exact ⟨k0.2, k0.1⟩
          · exact ⟨hst.2, hst.1⟩
        have hq : vP V t i = min 47 (G 92 i + G 87 (6 + 5 * i + 3) * (if (G 91 i = 2 ∨ G 91 i = 5) then t % 2 else t)) := by
          show q_pos (V 1 i) (V 3 i) (V 4 i) t = _
          unfold q_pos
          rw [← hh.1, ← hh.2.2.1, ← hh.2.2.2.1]
          have hc : 0 ≤ G 92 i ∧ G 92 i ≤ 47 := by omega
          split
          · rcases (show t % 2 = 0 ∨ t % 2 = 1 by omega) with z | z
            · rw [z, if_pos rfl]; omega
            · rw [z, if_neg (by decide)]; omega
          · rfl
        first | rw [if_pos (by omega)] at hx hq | rw [if_neg (by omega)] at hx hq
        refine k_imul dX12_cellOf_49 ?_
        refine k_iadd dX12_cellOf_50 ?_
        refine k_istore (L' := [_, _, _, _, _]) dX12_cellOf_51 (Nat.le_of_ble_eq_true rfl) rfl ?_
        refine k_iload dX12_cellOf_53 rfl ?_
        refine k_bipush dX12_cellOf_55 (by decide) ?_
        refine k_icmp_le 65 dX12_cellOf_57 (by decide) ⟨by omega, by omega⟩ ⟨by decide, by decide⟩ (fun h57 => ?_) (fun h57 => ?_)
        · skip
          refine k_iload dX12_cellOf_65 rfl ?_
          exact k_iret dX12_cellOf_67 rfl ⟨_, rfl, by rw [hq]; omega, rfl⟩
        · skip
          refine k_bipush dX12_cellOf_60 (by decide) ?_
          refine k_goto 67 dX12_cellOf_62 (by decide) ?_
          exact k_iret dX12_cellOf_67 rfl ⟨_, rfl, by rw [hq]; omega, rfl⟩
      · skip
        refine k_iload_n dX12_cellOf_42 rfl ?_
        refine k_iconst dX12_cellOf_43 ?_
        refine k_irem dX12_cellOf_44 (by omega) (by omega) ?_
        refine k_goto 49 dX12_cellOf_45 (by decide) ?_
        have hx : G 87 (6 + 5 * i + 3) * (if (G 91 i = 2 ∨ G 91 i = 5) then t % 2 else t) ≤ 180 ∧ 0 ≤ G 87 (6 + 5 * i + 3) * (if (G 91 i = 2 ∨ G 91 i = 5) then t % 2 else t) := by
          have k0 := mulb (s := G 87 (6 + 5 * i + 3)) (t := t % 2) (by omega) (by omega)
          split
          · exact ⟨k0.2, k0.1⟩
          · exact ⟨hst.2, hst.1⟩
        have hq : vP V t i = min 47 (G 92 i + G 87 (6 + 5 * i + 3) * (if (G 91 i = 2 ∨ G 91 i = 5) then t % 2 else t)) := by
          show q_pos (V 1 i) (V 3 i) (V 4 i) t = _
          unfold q_pos
          rw [← hh.1, ← hh.2.2.1, ← hh.2.2.2.1]
          have hc : 0 ≤ G 92 i ∧ G 92 i ≤ 47 := by omega
          split
          · rcases (show t % 2 = 0 ∨ t % 2 = 1 by omega) with z | z
            · rw [z, if_pos rfl]; omega
            · rw [z, if_neg (by decide)]; omega
          · rfl
        first | rw [if_pos (by omega)] at hx hq | rw [if_neg (by omega)] at hx hq
        refine k_imul dX12_cellOf_49 ?_
        refine k_iadd dX12_cellOf_50 ?_
        refine k_istore (L' := [_, _, _, _, _]) dX12_cellOf_51 (Nat.le_of_ble_eq_true rfl) rfl ?_
        refine k_iload dX12_cellOf_53 rfl ?_
        refine k_bipush dX12_cellOf_55 (by decide) ?_
        refine k_icmp_le 65 dX12_cellOf_57 (by decide) ⟨by omega, by omega⟩ ⟨by decide, by decide⟩ (fun h57 => ?_) (fun h57 => ?_)
        · skip
          refine k_iload dX12_cellOf_65 rfl ?_
          exact k_iret dX12_cellOf_67 rfl ⟨_, rfl, by rw [hq]; omega, rfl⟩
        · skip
          refine k_bipush dX12_cellOf_60 (by decide) ?_
          refine k_goto 67 dX12_cellOf_62 (by decide) ?_
          exact k_iret dX12_cellOf_67 rfl ⟨_, rfl, by rw [hq]; omega, rfl⟩
theorem m_xCountsOf {V G : Mem} {set : Nat} (hV : Vok V) (hset : set < 64) (hH : HD V set G) {i : Nat} (hi : (i : Int) < V 0 2) {t : Int} (ht : 0 ≤ t ∧ t ≤ 60)  : MP M_X12_countsOf [.ref 86, .int (iI (i : Int)), .int (iI t)] G (vx (q_ct (V 1 i) (V 2 i) t) G) := by
  have hn := hV.2.2.1
  have hk := hV.2.2.2 i
  have hh := hH.2.2 i hi
  have hp := hH.2.1
  refine MP.of [some (.ref 86), some (.int (iI (i : Int))), some (.int (iI t)), none, none] (plainFor_of_name pn_X12) (Nat.le_of_ble_eq_true rfl) rfl ?_
  refine k_aload_n dX12_countsOf_0 rfl ?_
  refine k_iload_n dX12_countsOf_1 rfl ?_
  refine k_iconst dX12_countsOf_2 ?_
  refine k_callVi [.int (iI _), .int (iI _)] dX12_countsOf_3 s_X12_countsOf_98 rfl (m_xGet1 (by omega)) rfl (Nat.le_of_ble_eq_true rfl) sh_o86 ⟨_, rfl, rfl⟩ (Nat.le_of_ble_eq_true rfl) ?_
  rintro _ _ ⟨rfl, rfl⟩
  refine k_istore_n (L' := [_, _, _, _, _]) dX12_countsOf_6 (Nat.le_of_ble_eq_true rfl) rfl ?_
  refine k_bipush dX12_countsOf_7 (by decide) ?_
  refine k_iload_n dX12_countsOf_9 rfl ?_
  refine k_iconst dX12_countsOf_10 ?_
  refine k_iadd dX12_countsOf_11 ?_
  refine k_callSi [.int (iI _), .int (iI _)] dX12_countsOf_12 s_X12_countsOf_119 rfl (m_xLeast ⟨by omega, by omega⟩ ⟨by omega, by omega⟩) rfl (Nat.le_of_ble_eq_true rfl) ?_
  rintro _ _ ⟨rfl, rfl⟩
  refine k_istore (L' := [_, _, _, _, _]) dX12_countsOf_15 (Nat.le_of_ble_eq_true rfl) rfl ?_
  refine k_aload_n dX12_countsOf_17 rfl ?_
  refine k_getR dX12_countsOf_18 f_X12_27 (Nat.le_of_ble_eq_true rfl) sh_o86 (fun _ => rfl) ?_
  refine k_iload_n dX12_countsOf_21 rfl ?_
  refine k_iald i dX12_countsOf_22 (Nat.le_of_ble_eq_true rfl) sh_a91 (by decide) (by omega) (by omega) ?_
  refine k_iconst dX12_countsOf_23 ?_
  refine k_icmp_ne 32 dX12_countsOf_24 (by decide) ⟨by omega, by omega⟩ ⟨by decide, by decide⟩ (fun h24 => ?_) (fun h24 => ?_)
  · skip
    refine k_aload_n dX12_countsOf_32 rfl ?_
    refine k_getR dX12_countsOf_33 f_X12_27 (Nat.le_of_ble_eq_true rfl) sh_o86 (fun _ => rfl) ?_
    refine k_iload_n dX12_countsOf_36 rfl ?_
    refine k_iald i dX12_countsOf_37 (Nat.le_of_ble_eq_true rfl) sh_a91 (by decide) (by omega) (by omega) ?_
    refine k_iconst dX12_countsOf_38 ?_
    refine k_icmp_ne 53 dX12_countsOf_39 (by decide) ⟨by omega, by omega⟩ ⟨by decide, by decide⟩ (fun h39 => ?_) (fun h39 => ?_)
    · skip
      refine k_aload_n dX12_countsOf_53 rfl ?_
      refine k_getR dX12_countsOf_54 f_X12_27 (Nat.le_of_ble_eq_true rfl) sh_o86 (fun _ => rfl) ?_
      refine k_iload_n dX12_countsOf_57 rfl ?_
      refine k_iald i dX12_countsOf_58 (Nat.le_of_ble_eq_true rfl) sh_a91 (by decide) (by omega) (by omega) ?_
      refine k_iconst dX12_countsOf_59 ?_
      refine k_icmp_ne 77 dX12_countsOf_60 (by decide) ⟨by omega, by omega⟩ ⟨by decide, by decide⟩ (fun h60 => ?_) (fun h60 => ?_)
      · skip
        refine k_iload_n dX12_countsOf_77 rfl ?_
        exact k_iret dX12_countsOf_78 rfl ⟨_, rfl, by unfold q_ct; rw [← hh.1, ← hh.2.1]; first | (rw [if_pos (by omega)]; done) | (rw [if_neg (by omega), if_pos (by omega)]; done) | (rw [if_neg (by omega), if_neg (by omega), if_pos (by omega)]; done) | (rw [if_neg (by omega), if_neg (by omega), if_neg (by omega)]; done), rfl⟩
      · skip
        refine k_bipush dX12_countsOf_63 (by decide) ?_
        refine k_iload_n dX12_countsOf_65 rfl ?_
        refine k_iload_n dX12_countsOf_66 rfl ?_
        refine k_bipush dX12_countsOf_67 (by decide) ?_
        refine k_idiv dX12_countsOf_69 (by omega) (by omega) ?_
        refine k_iadd dX12_countsOf_70 ?_
        refine k_callSi [.int (iI _), .int (iI _)] dX12_countsOf_71 s_X12_countsOf_119 rfl (m_xLeast ⟨by omega, by omega⟩ ⟨by omega, by omega⟩) rfl (Nat.le_of_ble_eq_true rfl) ?_
        rintro _ _ ⟨rfl, rfl⟩
        refine k_goto 78 dX12_countsOf_74 (by decide) ?_
        exact k_iret dX12_countsOf_78 rfl ⟨_, rfl, by unfold q_ct; rw [← hh.1, ← hh.2.1]; first | (rw [if_pos (by omega)]; done) | (rw [if_neg (by omega), if_pos (by omega)]; done) | (rw [if_neg (by omega), if_neg (by omega), if_pos (by omega)]; done) | (rw [if_neg (by omega), if_neg (by omega), if_neg (by omega)]; done), rfl⟩
    · skip
      refine k_iconst dX12_countsOf_42 ?_
      refine k_iload dX12_countsOf_43 rfl ?_
      refine k_iconst dX12_countsOf_45 ?_
      refine k_idiv dX12_countsOf_46 (by omega) (by omega) ?_
      refine k_callSi [.int (iI _), .int (iI _)] dX12_countsOf_47 s_X12_countsOf_122 rfl (m_xMost ⟨by omega, by omega⟩ ⟨by omega, by omega⟩) rfl (Nat.le_of_ble_eq_true rfl) ?_
      rintro _ _ ⟨rfl, rfl⟩
      refine k_goto 78 dX12_countsOf_50 (by decide) ?_
      exact k_iret dX12_countsOf_78 rfl ⟨_, rfl, by unfold q_ct; rw [← hh.1, ← hh.2.1]; first | (rw [if_pos (by omega)]; done) | (rw [if_neg (by omega), if_pos (by omega)]; done) | (rw [if_neg (by omega), if_neg (by omega), if_pos (by omega)]; done) | (rw [if_neg (by omega), if_neg (by omega), if_neg (by omega)]; done), rfl⟩
  · skip
    refine k_iload dX12_countsOf_27 rfl ?_
    refine k_goto 78 dX12_countsOf_29 (by decide) ?_
    exact k_iret dX12_countsOf_78 rfl ⟨_, rfl, by unfold q_ct; rw [← hh.1, ← hh.2.1]; first | (rw [if_pos (by omega)]; done) | (rw [if_neg (by omega), if_pos (by omega)]; done) | (rw [if_neg (by omega), if_neg (by omega), if_pos (by omega)]; done) | (rw [if_neg (by omega), if_neg (by omega), if_neg (by omega)]; done), rfl⟩
theorem m_xIsOut {V G : Mem} {set : Nat} (hV : Vok V) (hset : set < 64) (hH : HD V set G) {i : Nat} (hi : (i : Int) < V 0 2) {t : Int} (ht : 0 ≤ t ∧ t ≤ 60)  : MP M_X12_isOut [.ref 86, .int (iI (i : Int)), .int (iI t)] G (vx (bI (q_in set i = true ∧ 0 < vH V t i)) G) := by
  have hn := hV.2.2.1
  have hk := hV.2.2.2 i
  have hh := hH.2.2 i hi
  have hp := hH.2.1
  have hq : 0 < vH V t i ↔ t < G 87 (6 + 5 * i + 4) ∧ (G 91 i = 5 → t < 20) := by
    have e := q_hi_p (k := V 1 i) (h := V 2 i) (b := V 5 i) (t := t) (by omega) ht
    rw [← hh.1, ← hh.2.2.2.2] at e
    show 0 < q_hi (V 1 i) (V 2 i) (V 5 i) t ↔ _
    rw [← hh.1, ← hh.2.2.2.2]
    exact e
  have hs : q_in set i = true ↔ set / 2 ^ i % 2 = 1 := by unfold q_in; exact decide_eq_true_iff
  refine MP.of [some (.ref 86), some (.int (iI (i : Int))), some (.int (iI t))] (plainFor_of_name pn_X12) (Nat.le_of_ble_eq_true rfl) rfl ?_
  refine k_aload_n dX12_isOut_0 rfl ?_
  refine k_getI dX12_isOut_1 f_X12_115 (Nat.le_of_ble_eq_true rfl) sh_o86 (fun _ => rfl) ?_
  refine k_iload_n dX12_isOut_4 rfl ?_
  refine k_ishr set i dX12_isOut_5 (by rw [hp]) rfl (by omega) (by omega) ?_
  refine k_iconst dX12_isOut_6 ?_
  refine k_iand1 _ dX12_isOut_7 rfl ?_
  refine k_iconst dX12_isOut_8 ?_
  refine k_icmp_ne 42 dX12_isOut_9 (by decide) ⟨by omega, by omega⟩ ⟨by decide, by decide⟩ (fun h9 => ?_) (fun h9 => ?_)
  · skip
    refine k_iconst dX12_isOut_42 ?_
    exact k_zret dX12_isOut_43 rfl (Or.inl rfl) ⟨_, rfl, by first | exact bI_t ⟨hs.mpr (by omega), hq.mpr (by omega)⟩ | exact bI_f (fun q => by have q1 := hs.mp q.1; have q2 := hq.mp q.2; omega), rfl⟩
  · skip
    refine k_iload_n dX12_isOut_12 rfl ?_
    refine k_aload_n dX12_isOut_13 rfl ?_
    refine k_iload_n dX12_isOut_14 rfl ?_
    refine k_iconst dX12_isOut_15 ?_
    refine k_callVi [.int (iI _), .int (iI _)] dX12_isOut_16 s_X12_isOut_98 rfl (m_xGet4 (by omega)) rfl (Nat.le_of_ble_eq_true rfl) sh_o86 ⟨_, rfl, rfl⟩ (Nat.le_of_ble_eq_true rfl) ?_
    rintro _ _ ⟨rfl, rfl⟩
    refine k_icmp_ge 42 dX12_isOut_19 (by decide) ⟨by omega, by omega⟩ ⟨by omega, by omega⟩ (fun h19 => ?_) (fun h19 => ?_)
    · skip
      refine k_iconst dX12_isOut_42 ?_
      exact k_zret dX12_isOut_43 rfl (Or.inl rfl) ⟨_, rfl, by first | exact bI_t ⟨hs.mpr (by omega), hq.mpr (by omega)⟩ | exact bI_f (fun q => by have q1 := hs.mp q.1; have q2 := hq.mp q.2; omega), rfl⟩
    · skip
      refine k_aload_n dX12_isOut_22 rfl ?_
      refine k_getR dX12_isOut_23 f_X12_27 (Nat.le_of_ble_eq_true rfl) sh_o86 (fun _ => rfl) ?_
      refine k_iload_n dX12_isOut_26 rfl ?_
      refine k_iald i dX12_isOut_27 (Nat.le_of_ble_eq_true rfl) sh_a91 (by decide) (by omega) (by omega) ?_
      refine k_iconst dX12_isOut_28 ?_
      refine k_icmp_ne 38 dX12_isOut_29 (by decide) ⟨by omega, by omega⟩ ⟨by decide, by decide⟩ (fun h29 => ?_) (fun h29 => ?_)
      · skip
        refine k_iconst dX12_isOut_38 ?_
        refine k_goto 43 dX12_isOut_39 (by decide) ?_
        exact k_zret dX12_isOut_43 rfl (Or.inr rfl) ⟨_, rfl, by first | exact bI_t ⟨hs.mpr (by omega), hq.mpr (by omega)⟩ | exact bI_f (fun q => by have q1 := hs.mp q.1; have q2 := hq.mp q.2; omega), rfl⟩
      · skip
        refine k_iload_n dX12_isOut_32 rfl ?_
        refine k_bipush dX12_isOut_33 (by decide) ?_
        refine k_icmp_ge 42 dX12_isOut_35 (by decide) ⟨by omega, by omega⟩ ⟨by decide, by decide⟩ (fun h35 => ?_) (fun h35 => ?_)
        · skip
          refine k_iconst dX12_isOut_42 ?_
          exact k_zret dX12_isOut_43 rfl (Or.inl rfl) ⟨_, rfl, by first | exact bI_t ⟨hs.mpr (by omega), hq.mpr (by omega)⟩ | exact bI_f (fun q => by have q1 := hs.mp q.1; have q2 := hq.mp q.2; omega), rfl⟩
        · skip
          refine k_iconst dX12_isOut_38 ?_
          refine k_goto 43 dX12_isOut_39 (by decide) ?_
          exact k_zret dX12_isOut_43 rfl (Or.inr rfl) ⟨_, rfl, by first | exact bI_t ⟨hs.mpr (by omega), hq.mpr (by omega)⟩ | exact bI_f (fun q => by have q1 := hs.mp q.1; have q2 := hq.mp q.2; omega), rfl⟩
theorem m_xIsSeen {V G : Mem} {set : Nat} (hV : Vok V) (hset : set < 64) (hH : HD V set G) {i : Nat} (hi : (i : Int) < V 0 2) {x : Int} (hx : 0 ≤ x ∧ x ≤ 47) {t : Int} (ht : 0 ≤ t ∧ t ≤ 60)  : MP M_X12_isSeen [.ref 86, .int (iI (i : Int)), .int (iI x), .int (iI t)] G (vx (bI (q_seen (V 0 0) (vP V t) (vH V t) set x i = true)) G) := by
  have hh1 := hH.1.2.1
  have hb := vP_b hV ht i
  have b1 := hV.1
  have b2 := q_d_b (a := vP V t i) (b := x) hb hx
  have hs : q_in set i = true ↔ set / 2 ^ i % 2 = 1 := by unfold q_in; exact decide_eq_true_iff
  refine MP.of [some (.ref 86), some (.int (iI (i : Int))), some (.int (iI x)), some (.int (iI t))] (plainFor_of_name pn_X12) (Nat.le_of_ble_eq_true rfl) rfl ?_
  refine k_aload_n dX12_isSeen_0 rfl ?_
  refine k_iload_n dX12_isSeen_1 rfl ?_
  refine k_iload_n dX12_isSeen_2 rfl ?_
  refine k_callVi [.int (iI _), .int (iI _)] dX12_isSeen_3 s_X12_isSeen_125 rfl (m_xIsOut hV hset hH hi ht) rfl (Nat.le_of_ble_eq_true rfl) sh_o86 ⟨_, rfl, rfl⟩ (Nat.le_of_ble_eq_true rfl) ?_
  rintro _ _ ⟨rfl, rfl⟩
  refine k_ifb_eq 32 dX12_isSeen_6 (by decide) (fun h6 => ?_) (fun h6 => ?_)
  · skip
    refine k_iconst dX12_isSeen_32 ?_
    exact k_zret dX12_isSeen_33 rfl (Or.inl rfl) ⟨_, rfl, by first | exact bI_t (q_seen_iff.mpr ⟨hs.mp h6.1, h6.2, by omega⟩) | exact bI_f (fun q => by have q1 := q_seen_iff.mp q; first | exact h6 ⟨hs.mpr q1.1, q1.2.1⟩ | omega), rfl⟩
  · skip
    refine k_aload_n dX12_isSeen_9 rfl ?_
    refine k_iload_n dX12_isSeen_10 rfl ?_
    refine k_iload_n dX12_isSeen_11 rfl ?_
    refine k_callVi [.int (iI _), .int (iI _)] dX12_isSeen_12 s_X12_isSeen_129 rfl (m_xCellOf hV hset hH hi ht) rfl (Nat.le_of_ble_eq_true rfl) sh_o86 ⟨_, rfl, rfl⟩ (Nat.le_of_ble_eq_true rfl) ?_
    rintro _ _ ⟨rfl, rfl⟩
    refine k_iload_n dX12_isSeen_15 rfl ?_
    refine k_callSi [.int (iI _), .int (iI _)] dX12_isSeen_16 s_X12_isSeen_132 rfl (m_xApart (by first | assumption | exact ⟨by omega, by omega⟩) (by first | assumption | exact ⟨by omega, by omega⟩)) rfl (Nat.le_of_ble_eq_true rfl) ?_
    rintro _ _ ⟨rfl, rfl⟩
    refine k_aload_n dX12_isSeen_19 rfl ?_
    refine k_getR dX12_isSeen_20 f_X12_7 (Nat.le_of_ble_eq_true rfl) sh_o86 (fun _ => rfl) ?_
    refine k_iconst dX12_isSeen_23 ?_
    refine k_iald (1) dX12_isSeen_24 (Nat.le_of_ble_eq_true rfl) sh_a87 (by decide) (by omega) (by omega) ?_
    refine k_icmp_gt 32 dX12_isSeen_25 (by decide) ⟨by omega, by omega⟩ ⟨by omega, by omega⟩ (fun h25 => ?_) (fun h25 => ?_)
    · skip
      refine k_iconst dX12_isSeen_32 ?_
      exact k_zret dX12_isSeen_33 rfl (Or.inl rfl) ⟨_, rfl, by first | exact bI_t (q_seen_iff.mpr ⟨hs.mp h6.1, h6.2, by omega⟩) | exact bI_f (fun q => by have q1 := q_seen_iff.mp q; first | exact h6 ⟨hs.mpr q1.1, q1.2.1⟩ | omega), rfl⟩
    · skip
      refine k_iconst dX12_isSeen_28 ?_
      refine k_goto 33 dX12_isSeen_29 (by decide) ?_
      exact k_zret dX12_isSeen_33 rfl (Or.inr rfl) ⟨_, rfl, by first | exact bI_t (q_seen_iff.mpr ⟨hs.mp h6.1, h6.2, by omega⟩) | exact bI_f (fun q => by have q1 := q_seen_iff.mp q; first | exact h6 ⟨hs.mpr q1.1, q1.2.1⟩ | omega), rfl⟩
/-- whose rank it is; -1: nobody's -/
def nbI (v : Int) : Int := if v = 1048576 then -1 else v % 8
theorem nbI_0 {v : Int} (h : v = 1048576) : nbI v = -1 := if_pos h
theorem nbI_1 {P H : Nat → Int} {x v : Int} {j : Nat} (hq : q_rk P H x j < 10000) (hj : j < 6) (h : v = q_rk P H x j) : nbI v = (j : Int) := by
  unfold nbI
  rw [if_neg (by omega), h, q_rk_i hj]
theorem q_nb_le {sg : Int} {P H : Nat → Int} {set : Nat} {x rk : Int} : ∀ i j : Nat, j < i → q_seen sg P H set x j = true → rk < q_rk P H x j → q_nb sg P H set x rk i ≤ q_rk P H x j
  | 0, j, h, _, _ => absurd h (by omega)
  | i + 1, j, h, hs, hr => by
    unfold q_nb
    by_cases e : j = i
    · subst e
      split
      · omega
      · next hn =>
        rcases (show q_rk P H x j < q_nb sg P H set x rk j ∨ q_nb sg P H set x rk j ≤ q_rk P H x j by omega) with q | q
        · exact absurd ⟨hs, hr, q⟩ hn
        · exact q
    · have k := q_nb_le (sg := sg) (set := set) (rk := rk) i j (by omega) hs hr
      split <;> omega
theorem q_low_9 {sg : Int} {P H : Nat → Int} {set : Nat} {x : Int} : ∀ i : Nat, (∀ j, j < i → ¬ q_seen sg P H set x j = true) → q_low sg P H set x i = 9
  | 0, _ => rfl
  | i + 1, h => by
    unfold q_low
    rw [if_neg (h i (by omega))]
    exact q_low_9 i (fun j hj => h j (by omega))
theorem lp_nearest {V G : Mem} {set : Nat} (hV : Vok V) (hset : set < 64) (hH : HD V set G) {x : Int} (hx : 0 ≤ x ∧ x ≤ 47) {t : Int} (ht : 0 ≤ t ∧ t ≤ 60) {but rk : Int} (hbut : -1 ≤ but ∧ but ≤ 5) (hB : ∀ j : Nat, (j : Int) < V 0 2 → q_seen (V 0 0) (vP V t) (vH V t) set x j = true → ((j : Int) = but ↔ ¬ rk < q_rk (vP V t) (vH V t) x j))  : ∀ i : Nat, i ≤ (V 0 2).toNat → ∀ j6 j7 j8 : Option Value, RP M_X12_nearest 6 [some (.ref 86), some (.int (iI x)), some (.int (iI t)), some (.int (iI but)), some (.int (iI (nbI (q_nb (V 0 0) (vP V t) (vH V t) set x rk i)))), some (.int (iI (i : Int))), j6, j7, j8] [] G (vx (nbI (q_nb (V 0 0) (vP V t) (vH V t) set x rk (V 0 2).toNat)) G) := by
  have hn := hV.2.2.1
  have h0 := hH.1.1
  refine cnt (fun j6 j7 j8 => ?_) (fun i hi ih j6 j7 j8 => ?_)
  · skip
    refine k_iload dX12_nearest_6 rfl ?_
    refine k_aload_n dX12_nearest_8 rfl ?_
    refine k_callVi [] dX12_nearest_9 s_X12_nearest_61 rfl m_xChildren rfl (Nat.le_of_ble_eq_true rfl) sh_o86 ⟨_, rfl, rfl⟩ (Nat.le_of_ble_eq_true rfl) ?_
    rintro _ _ ⟨rfl, rfl⟩
    refine k_icmp_ge 127 dX12_nearest_12 (by decide) ⟨by omega, by omega⟩ ⟨by omega, by omega⟩ (fun h12 => ?_) (fun h12 => absurd h12 (by omega))
    refine k_iload dX12_nearest_127 rfl ?_
    exact k_iret dX12_nearest_129 rfl ⟨_, rfl, rfl, rfl⟩
  · have hok := vok hV ht
    have bI' := hok i
    have b2 := q_rk_b hok hx i (by omega)
    have b3 := q_d_b (a := vP V t i) (b := x) (by omega) hx
    have e := q_nb.eq_2 (V 0 0) (vP V t) (vH V t) set x rk i
    have rI : q_rk (vP V t) (vH V t) x i = (q_d (vP V t i) x * 16 + vH V t i) * 8 + i := rfl
    have cI : 0 < vH V t i → vH V t i = q_ct (V 1 i) (V 2 i) t := fun k => q_ct_h k
    have cb : ∀ j, 0 ≤ q_ct (V 1 j) (V 2 j) t ∧ q_ct (V 1 j) (V 2 j) t ≤ 9 := fun j => q_ct_b (hV.2.2.2 j).2.1 ht
    have cbI := cb i
    have eT : (q_seen (V 0 0) (vP V t) (vH V t) set x i = true ∧ rk < q_rk (vP V t) (vH V t) x i ∧ q_rk (vP V t) (vH V t) x i < q_nb (V 0 0) (vP V t) (vH V t) set x rk i) → nbI (q_nb (V 0 0) (vP V t) (vH V t) set x rk (i + 1)) = (i : Int) := fun h => nbI_1 b2.2 (by omega) (by rw [e, if_pos h])
    have eF : ¬ (q_seen (V 0 0) (vP V t) (vH V t) set x i = true ∧ rk < q_rk (vP V t) (vH V t) x i ∧ q_rk (vP V t) (vH V t) x i < q_nb (V 0 0) (vP V t) (vH V t) set x rk i) → q_nb (V 0 0) (vP V t) (vH V t) set x rk (i + 1) = q_nb (V 0 0) (vP V t) (vH V t) set x rk i := fun h => by rw [e, if_neg h]
    rcases q_nb_ex (sg := V 0 0) (P := vP V t) (H := vH V t) (set := set) (x := x) (rk := rk) i with hA | ⟨j, hj, hsj, hrj, hkj⟩
    · have hbest := nbI_0 hA
      rw [hbest]
      refine k_iload dX12_nearest_6 rfl ?_
      refine k_aload_n dX12_nearest_8 rfl ?_
      refine k_callVi [] dX12_nearest_9 s_X12_nearest_61 rfl m_xChildren rfl (Nat.le_of_ble_eq_true rfl) sh_o86 ⟨_, rfl, rfl⟩ (Nat.le_of_ble_eq_true rfl) ?_
      rintro _ _ ⟨rfl, rfl⟩
      refine k_icmp_ge 127 dX12_nearest_12 (by decide) ⟨by omega, by omega⟩ ⟨by omega, by omega⟩ (fun h12 => absurd h12 (by omega)) (fun h12 => ?_)
      refine k_iload dX12_nearest_15 rfl ?_
      refine k_iload_n dX12_nearest_17 rfl ?_
      refine k_icmp_eq 121 dX12_nearest_18 (by decide) ⟨by omega, by omega⟩ ⟨by omega, by omega⟩ (fun h18 => ?_) (fun h18 => ?_)
      · skip
        refine k_iinc (L' := [_, _, _, _, _, _, _, _, _]) dX12_nearest_121 rfl (Nat.le_of_ble_eq_true rfl) rfl ?_
        refine k_goto 6 dX12_nearest_124 (by decide) ?_
        first | (rw [eT ⟨h29, by have := hB i (by omega) h29; omega, by have := cI (q_seen_iff.mp h29).2.1; omega⟩] at ih; exact ih _ _ _) | (rw [eF (fun q => h29 q.1), hbest] at ih; exact ih _ _ _) | (rw [eF (fun q => absurd q.2.1 ((hB i (by omega) q.1).mp h18)), hbest] at ih; exact ih _ _ _) | (rw [eF (fun q => by have := cI (q_seen_iff.mp h29).2.1; omega), hbest] at ih; exact ih _ _ _)
      · skip
        refine k_aload_n dX12_nearest_21 rfl ?_
        refine k_iload dX12_nearest_22 rfl ?_
        refine k_iload_n dX12_nearest_24 rfl ?_
        refine k_iload_n dX12_nearest_25 rfl ?_
        refine k_callVi [.int (iI _), .int (iI _), .int (iI _)] dX12_nearest_26 s_X12_nearest_135 rfl (m_xIsSeen hV hset hH (by omega) hx ht) rfl (Nat.le_of_ble_eq_true rfl) sh_o86 ⟨_, rfl, rfl⟩ (Nat.le_of_ble_eq_true rfl) ?_
        rintro _ _ ⟨rfl, rfl⟩
        refine k_ifb_eq 121 dX12_nearest_29 (by decide) (fun h29 => ?_) (fun h29 => ?_)
        · skip
          refine k_iinc (L' := [_, _, _, _, _, _, _, _, _]) dX12_nearest_121 rfl (Nat.le_of_ble_eq_true rfl) rfl ?_
          refine k_goto 6 dX12_nearest_124 (by decide) ?_
          first | (rw [eT ⟨h29, by have := hB i (by omega) h29; omega, by have := cI (q_seen_iff.mp h29).2.1; omega⟩] at ih; exact ih _ _ _) | (rw [eF (fun q => h29 q.1), hbest] at ih; exact ih _ _ _) | (rw [eF (fun q => absurd q.2.1 ((hB i (by omega) q.1).mp h18)), hbest] at ih; exact ih _ _ _) | (rw [eF (fun q => by have := cI (q_seen_iff.mp h29).2.1; omega), hbest] at ih; exact ih _ _ _)
        · skip
          refine k_aload_n dX12_nearest_32 rfl ?_
          refine k_iload dX12_nearest_33 rfl ?_
          refine k_iload_n dX12_nearest_35 rfl ?_
          refine k_callVi [.int (iI _), .int (iI _)] dX12_nearest_36 s_X12_nearest_129 rfl (m_xCellOf hV hset hH (by omega) ht) rfl (Nat.le_of_ble_eq_true rfl) sh_o86 ⟨_, rfl, rfl⟩ (Nat.le_of_ble_eq_true rfl) ?_
          rintro _ _ ⟨rfl, rfl⟩
          refine k_iload_n dX12_nearest_39 rfl ?_
          refine k_callSi [.int (iI _), .int (iI _)] dX12_nearest_40 s_X12_nearest_132 rfl (m_xApart (by first | assumption | exact ⟨by omega, by omega⟩) (by first | assumption | exact ⟨by omega, by omega⟩)) rfl (Nat.le_of_ble_eq_true rfl) ?_
          rintro _ _ ⟨rfl, rfl⟩
          refine k_istore (L' := [_, _, _, _, _, _, _, _, _]) dX12_nearest_43 (Nat.le_of_ble_eq_true rfl) rfl ?_
          refine k_iload dX12_nearest_45 rfl ?_
          refine k_iconst dX12_nearest_47 ?_
          refine k_icmp_ne 56 dX12_nearest_48 (by decide) ⟨by omega, by omega⟩ ⟨by decide, by decide⟩ (fun h48 => absurd h48 (by omega)) (fun h48 => ?_)
          refine k_ldc 1000000 dX12_nearest_51 w_1025 ?_
          refine k_goto 67 dX12_nearest_53 (by decide) ?_
          refine k_istore (L' := [_, _, _, _, _, _, _, _, _]) dX12_nearest_67 (Nat.le_of_ble_eq_true rfl) rfl ?_
          refine k_iload dX12_nearest_69 rfl ?_
          refine k_iload dX12_nearest_71 rfl ?_
          refine k_icmp_lt 100 dX12_nearest_73 (by decide) ⟨by omega, by omega⟩ ⟨by decide, by decide⟩ (fun h73 => ?_) (fun h73 => absurd h73 (by omega))
          refine k_iconst dX12_nearest_100 ?_
          refine k_goto 105 dX12_nearest_101 (by decide) ?_
          refine k_istore (L' := [_, _, _, _, _, _, _, _, _]) dX12_nearest_105 (Nat.le_of_ble_eq_true rfl) rfl ?_
          refine k_iload dX12_nearest_107 rfl ?_
          refine k_if_eq 117 dX12_nearest_109 (by decide) ⟨by decide, by decide⟩ (fun h => False.elim (by revert h; decide)) (fun _ => ?_)
          refine k_iload dX12_nearest_112 rfl ?_
          refine k_goto 119 dX12_nearest_114 (by decide) ?_
          refine k_istore (L' := [_, _, _, _, _, _, _, _, _]) dX12_nearest_119 (Nat.le_of_ble_eq_true rfl) rfl ?_
          refine k_iinc (L' := [_, _, _, _, _, _, _, _, _]) dX12_nearest_121 rfl (Nat.le_of_ble_eq_true rfl) rfl ?_
          refine k_goto 6 dX12_nearest_124 (by decide) ?_
          first | (rw [eT ⟨h29, by have := hB i (by omega) h29; omega, by have := cI (q_seen_iff.mp h29).2.1; omega⟩] at ih; exact ih _ _ _) | (rw [eF (fun q => h29 q.1), hbest] at ih; exact ih _ _ _) | (rw [eF (fun q => absurd q.2.1 ((hB i (by omega) q.1).mp h18)), hbest] at ih; exact ih _ _ _) | (rw [eF (fun q => by have := cI (q_seen_iff.mp h29).2.1; omega), hbest] at ih; exact ih _ _ _)
    · have b4 := q_rk_b hok hx j (by omega)
      have b5 := q_d_b (a := vP V t j) (b := x) (by have := hok j; omega) hx
      have b6 := hok j
      have rJ : q_rk (vP V t) (vH V t) x j = (q_d (vP V t j) x * 16 + vH V t j) * 8 + j := rfl
      have cJ : vH V t j = q_ct (V 1 j) (V 2 j) t := q_ct_h (q_seen_iff.mp hsj).2.1
      have cbJ := cb j
      have hbest := nbI_1 b4.2 (by omega) hrj
      rw [hbest]
      refine k_iload dX12_nearest_6 rfl ?_
      refine k_aload_n dX12_nearest_8 rfl ?_
      refine k_callVi [] dX12_nearest_9 s_X12_nearest_61 rfl m_xChildren rfl (Nat.le_of_ble_eq_true rfl) sh_o86 ⟨_, rfl, rfl⟩ (Nat.le_of_ble_eq_true rfl) ?_
      rintro _ _ ⟨rfl, rfl⟩
      refine k_icmp_ge 127 dX12_nearest_12 (by decide) ⟨by omega, by omega⟩ ⟨by omega, by omega⟩ (fun h12 => absurd h12 (by omega)) (fun h12 => ?_)
      refine k_iload dX12_nearest_15 rfl ?_
      refine k_iload_n dX12_nearest_17 rfl ?_
      refine k_icmp_eq 121 dX12_nearest_18 (by decide) ⟨by omega, by omega⟩ ⟨by omega, by omega⟩ (fun h18 => ?_) (fun h18 => ?_)
      · skip
        refine k_iinc (L' := [_, _, _, _, _, _, _, _, _]) dX12_nearest_121 rfl (Nat.le_of_ble_eq_true rfl) rfl ?_
        refine k_goto 6 dX12_nearest_124 (by decide) ?_
        first | (rw [eT ⟨h29, by have := hB i (by omega) h29; omega, by have := cI (q_seen_iff.mp h29).2.1; omega⟩] at ih; exact ih _ _ _) | (rw [eF (fun q => h29 q.1), hbest] at ih; exact ih _ _ _) | (rw [eF (fun q => absurd q.2.1 ((hB i (by omega) q.1).mp h18)), hbest] at ih; exact ih _ _ _) | (rw [eF (fun q => by have := cI (q_seen_iff.mp h29).2.1; omega), hbest] at ih; exact ih _ _ _)
      · skip
        refine k_aload_n dX12_nearest_21 rfl ?_
        refine k_iload dX12_nearest_22 rfl ?_
        refine k_iload_n dX12_nearest_24 rfl ?_
        refine k_iload_n dX12_nearest_25 rfl ?_
        refine k_callVi [.int (iI _), .int (iI _), .int (iI _)] dX12_nearest_26 s_X12_nearest_135 rfl (m_xIsSeen hV hset hH (by omega) hx ht) rfl (Nat.le_of_ble_eq_true rfl) sh_o86 ⟨_, rfl, rfl⟩ (Nat.le_of_ble_eq_true rfl) ?_
        rintro _ _ ⟨rfl, rfl⟩
        refine k_ifb_eq 121 dX12_nearest_29 (by decide) (fun h29 => ?_) (fun h29 => ?_)
        · skip
          refine k_iinc (L' := [_, _, _, _, _, _, _, _, _]) dX12_nearest_121 rfl (Nat.le_of_ble_eq_true rfl) rfl ?_
          refine k_goto 6 dX12_nearest_124 (by decide) ?_
          first | (rw [eT ⟨h29, by have := hB i (by omega) h29; omega, by have := cI (q_seen_iff.mp h29).2.1; omega⟩] at ih; exact ih _ _ _) | (rw [eF (fun q => h29 q.1), hbest] at ih; exact ih _ _ _) | (rw [eF (fun q => absurd q.2.1 ((hB i (by omega) q.1).mp h18)), hbest] at ih; exact ih _ _ _) | (rw [eF (fun q => by have := cI (q_seen_iff.mp h29).2.1; omega), hbest] at ih; exact ih _ _ _)
        · skip
          refine k_aload_n dX12_nearest_32 rfl ?_
          refine k_iload dX12_nearest_33 rfl ?_
          refine k_iload_n dX12_nearest_35 rfl ?_
          refine k_callVi [.int (iI _), .int (iI _)] dX12_nearest_36 s_X12_nearest_129 rfl (m_xCellOf hV hset hH (by omega) ht) rfl (Nat.le_of_ble_eq_true rfl) sh_o86 ⟨_, rfl, rfl⟩ (Nat.le_of_ble_eq_true rfl) ?_
          rintro _ _ ⟨rfl, rfl⟩
          refine k_iload_n dX12_nearest_39 rfl ?_
          refine k_callSi [.int (iI _), .int (iI _)] dX12_nearest_40 s_X12_nearest_132 rfl (m_xApart (by first | assumption | exact ⟨by omega, by omega⟩) (by first | assumption | exact ⟨by omega, by omega⟩)) rfl (Nat.le_of_ble_eq_true rfl) ?_
          rintro _ _ ⟨rfl, rfl⟩
          refine k_istore (L' := [_, _, _, _, _, _, _, _, _]) dX12_nearest_43 (Nat.le_of_ble_eq_true rfl) rfl ?_
          refine k_iload dX12_nearest_45 rfl ?_
          refine k_iconst dX12_nearest_47 ?_
          refine k_icmp_ne 56 dX12_nearest_48 (by decide) ⟨by omega, by omega⟩ ⟨by decide, by decide⟩ (fun h48 => ?_) (fun h48 => absurd h48 (by omega))
          refine k_aload_n dX12_nearest_56 rfl ?_
          refine k_iload dX12_nearest_57 rfl ?_
          refine k_iload_n dX12_nearest_59 rfl ?_
          refine k_callVi [.int (iI _), .int (iI _)] dX12_nearest_60 s_X12_nearest_129 rfl (m_xCellOf hV hset hH (by omega) ht) rfl (Nat.le_of_ble_eq_true rfl) sh_o86 ⟨_, rfl, rfl⟩ (Nat.le_of_ble_eq_true rfl) ?_
          rintro _ _ ⟨rfl, rfl⟩
          refine k_iload_n dX12_nearest_63 rfl ?_
          refine k_callSi [.int (iI _), .int (iI _)] dX12_nearest_64 s_X12_nearest_132 rfl (m_xApart (by first | assumption | exact ⟨by omega, by omega⟩) (by first | assumption | exact ⟨by omega, by omega⟩)) rfl (Nat.le_of_ble_eq_true rfl) ?_
          rintro _ _ ⟨rfl, rfl⟩
          refine k_istore (L' := [_, _, _, _, _, _, _, _, _]) dX12_nearest_67 (Nat.le_of_ble_eq_true rfl) rfl ?_
          refine k_iload dX12_nearest_69 rfl ?_
          refine k_iload dX12_nearest_71 rfl ?_
          refine k_icmp_lt 100 dX12_nearest_73 (by decide) ⟨by omega, by omega⟩ ⟨by omega, by omega⟩ (fun h73 => ?_) (fun h73 => ?_)
          · skip
            refine k_iconst dX12_nearest_100 ?_
            refine k_goto 105 dX12_nearest_101 (by decide) ?_
            refine k_istore (L' := [_, _, _, _, _, _, _, _, _]) dX12_nearest_105 (Nat.le_of_ble_eq_true rfl) rfl ?_
            refine k_iload dX12_nearest_107 rfl ?_
            refine k_if_eq 117 dX12_nearest_109 (by decide) ⟨by decide, by decide⟩ (fun h => False.elim (by revert h; decide)) (fun _ => ?_)
            refine k_iload dX12_nearest_112 rfl ?_
            refine k_goto 119 dX12_nearest_114 (by decide) ?_
            refine k_istore (L' := [_, _, _, _, _, _, _, _, _]) dX12_nearest_119 (Nat.le_of_ble_eq_true rfl) rfl ?_
            refine k_iinc (L' := [_, _, _, _, _, _, _, _, _]) dX12_nearest_121 rfl (Nat.le_of_ble_eq_true rfl) rfl ?_
            refine k_goto 6 dX12_nearest_124 (by decide) ?_
            first | (rw [eT ⟨h29, by have := hB i (by omega) h29; omega, by have := cI (q_seen_iff.mp h29).2.1; omega⟩] at ih; exact ih _ _ _) | (rw [eF (fun q => h29 q.1), hbest] at ih; exact ih _ _ _) | (rw [eF (fun q => absurd q.2.1 ((hB i (by omega) q.1).mp h18)), hbest] at ih; exact ih _ _ _) | (rw [eF (fun q => by have := cI (q_seen_iff.mp h29).2.1; omega), hbest] at ih; exact ih _ _ _)
          · skip
            refine k_iload dX12_nearest_76 rfl ?_
            refine k_iload dX12_nearest_78 rfl ?_
            refine k_icmp_ne 104 dX12_nearest_80 (by decide) ⟨by omega, by omega⟩ ⟨by omega, by omega⟩ (fun h80 => ?_) (fun h80 => ?_)
            · skip
              refine k_iconst dX12_nearest_104 ?_
              refine k_istore (L' := [_, _, _, _, _, _, _, _, _]) dX12_nearest_105 (Nat.le_of_ble_eq_true rfl) rfl ?_
              refine k_iload dX12_nearest_107 rfl ?_
              refine k_if_eq 117 dX12_nearest_109 (by decide) ⟨by decide, by decide⟩ (fun _ => ?_) (fun h => False.elim (by revert h; decide))
              refine k_iload dX12_nearest_117 rfl ?_
              refine k_istore (L' := [_, _, _, _, _, _, _, _, _]) dX12_nearest_119 (Nat.le_of_ble_eq_true rfl) rfl ?_
              refine k_iinc (L' := [_, _, _, _, _, _, _, _, _]) dX12_nearest_121 rfl (Nat.le_of_ble_eq_true rfl) rfl ?_
              refine k_goto 6 dX12_nearest_124 (by decide) ?_
              first | (rw [eT ⟨h29, by have := hB i (by omega) h29; omega, by have := cI (q_seen_iff.mp h29).2.1; omega⟩] at ih; exact ih _ _ _) | (rw [eF (fun q => h29 q.1), hbest] at ih; exact ih _ _ _) | (rw [eF (fun q => absurd q.2.1 ((hB i (by omega) q.1).mp h18)), hbest] at ih; exact ih _ _ _) | (rw [eF (fun q => by have := cI (q_seen_iff.mp h29).2.1; omega), hbest] at ih; exact ih _ _ _)
            · skip
              refine k_aload_n dX12_nearest_83 rfl ?_
              refine k_iload dX12_nearest_84 rfl ?_
              refine k_iload_n dX12_nearest_86 rfl ?_
              refine k_callVi [.int (iI _), .int (iI _)] dX12_nearest_87 s_X12_nearest_140 rfl (m_xCountsOf hV hset hH (by omega) ht) rfl (Nat.le_of_ble_eq_true rfl) sh_o86 ⟨_, rfl, rfl⟩ (Nat.le_of_ble_eq_true rfl) ?_
              rintro _ _ ⟨rfl, rfl⟩
              refine k_aload_n dX12_nearest_90 rfl ?_
              refine k_iload dX12_nearest_91 rfl ?_
              refine k_iload_n dX12_nearest_93 rfl ?_
              refine k_callVi [.int (iI _), .int (iI _)] dX12_nearest_94 s_X12_nearest_140 rfl (m_xCountsOf hV hset hH (by omega) ht) rfl (Nat.le_of_ble_eq_true rfl) sh_o86 ⟨_, rfl, rfl⟩ (Nat.le_of_ble_eq_true rfl) ?_
              rintro _ _ ⟨rfl, rfl⟩
              refine k_icmp_ge 104 dX12_nearest_97 (by decide) ⟨by omega, by omega⟩ ⟨by omega, by omega⟩ (fun h97 => ?_) (fun h97 => ?_)
              · skip
                refine k_iconst dX12_nearest_104 ?_
                refine k_istore (L' := [_, _, _, _, _, _, _, _, _]) dX12_nearest_105 (Nat.le_of_ble_eq_true rfl) rfl ?_
                refine k_iload dX12_nearest_107 rfl ?_
                refine k_if_eq 117 dX12_nearest_109 (by decide) ⟨by decide, by decide⟩ (fun _ => ?_) (fun h => False.elim (by revert h; decide))
                refine k_iload dX12_nearest_117 rfl ?_
                refine k_istore (L' := [_, _, _, _, _, _, _, _, _]) dX12_nearest_119 (Nat.le_of_ble_eq_true rfl) rfl ?_
                refine k_iinc (L' := [_, _, _, _, _, _, _, _, _]) dX12_nearest_121 rfl (Nat.le_of_ble_eq_true rfl) rfl ?_
                refine k_goto 6 dX12_nearest_124 (by decide) ?_
                first | (rw [eT ⟨h29, by have := hB i (by omega) h29; omega, by have := cI (q_seen_iff.mp h29).2.1; omega⟩] at ih; exact ih _ _ _) | (rw [eF (fun q => h29 q.1), hbest] at ih; exact ih _ _ _) | (rw [eF (fun q => absurd q.2.1 ((hB i (by omega) q.1).mp h18)), hbest] at ih; exact ih _ _ _) | (rw [eF (fun q => by have := cI (q_seen_iff.mp h29).2.1; omega), hbest] at ih; exact ih _ _ _)
              · skip
                refine k_iconst dX12_nearest_100 ?_
                refine k_goto 105 dX12_nearest_101 (by decide) ?_
                refine k_istore (L' := [_, _, _, _, _, _, _, _, _]) dX12_nearest_105 (Nat.le_of_ble_eq_true rfl) rfl ?_
                refine k_iload dX12_nearest_107 rfl ?_
                refine k_if_eq 117 dX12_nearest_109 (by decide) ⟨by decide, by decide⟩ (fun h => False.elim (by revert h; decide)) (fun _ => ?_)
                refine k_iload dX12_nearest_112 rfl ?_
                refine k_goto 119 dX12_nearest_114 (by decide) ?_
                refine k_istore (L' := [_, _, _, _, _, _, _, _, _]) dX12_nearest_119 (Nat.le_of_ble_eq_true rfl) rfl ?_
                refine k_iinc (L' := [_, _, _, _, _, _, _, _, _]) dX12_nearest_121 rfl (Nat.le_of_ble_eq_true rfl) rfl ?_
                refine k_goto 6 dX12_nearest_124 (by decide) ?_
                first | (rw [eT ⟨h29, by have := hB i (by omega) h29; omega, by have := cI (q_seen_iff.mp h29).2.1; omega⟩] at ih; exact ih _ _ _) | (rw [eF (fun q => h29 q.1), hbest] at ih; exact ih _ _ _) | (rw [eF (fun q => absurd q.2.1 ((hB i (by omega) q.1).mp h18)), hbest] at ih; exact ih _ _ _) | (rw [eF (fun q => by have := cI (q_seen_iff.mp h29).2.1; omega), hbest] at ih; exact ih _ _ _)
theorem m_xNearest {V G : Mem} {set : Nat} (hV : Vok V) (hset : set < 64) (hH : HD V set G) {x : Int} (hx : 0 ≤ x ∧ x ≤ 47) {t : Int} (ht : 0 ≤ t ∧ t ≤ 60) {but rk : Int} (hbut : -1 ≤ but ∧ but ≤ 5) (hB : ∀ j : Nat, (j : Int) < V 0 2 → q_seen (V 0 0) (vP V t) (vH V t) set x j = true → ((j : Int) = but ↔ ¬ rk < q_rk (vP V t) (vH V t) x j))  : MP M_X12_nearest [.ref 86, .int (iI x), .int (iI t), .int (iI but)] G (vx (nbI (q_nb (V 0 0) (vP V t) (vH V t) set x rk (V 0 2).toNat)) G) := by
  refine MP.of [some (.ref 86), some (.int (iI x)), some (.int (iI t)), some (.int (iI but)), none, none, none, none, none] (plainFor_of_name pn_X12) (Nat.le_of_ble_eq_true rfl) rfl ?_
  refine k_iconst dX12_nearest_0 ?_
  refine k_istore (L' := [_, _, _, _, _, _, _, _, _]) dX12_nearest_1 (Nat.le_of_ble_eq_true rfl) rfl ?_
  refine k_iconst dX12_nearest_3 ?_
  refine k_istore (L' := [_, _, _, _, _, _, _, _, _]) dX12_nearest_4 (Nat.le_of_ble_eq_true rfl) rfl ?_
  exact lp_nearest hV hset hH hx ht hbut hB 0 (Nat.zero_le _) _ _ _
theorem lp_lowest {V G : Mem} {set : Nat} (hV : Vok V) (hset : set < 64) (hH : HD V set G) {x : Int} (hx : 0 ≤ x ∧ x ≤ 47) {t : Int} (ht : 0 ≤ t ∧ t ≤ 60)  : ∀ i : Nat, i ≤ (V 0 2).toNat → RP M_X12_lowest 6 [some (.ref 86), some (.int (iI x)), some (.int (iI t)), some (.int (iI (q_low (V 0 0) (vP V t) (vH V t) set x i))), some (.int (iI (i : Int)))] [] G (vx (q_low (V 0 0) (vP V t) (vH V t) set x (V 0 2).toNat) G) := by
  have hn := hV.2.2.1
  have h0 := hH.1.1
  have hok := vok hV ht
  refine cnt ?_ (fun i hi ih => ?_)
  · skip
    refine k_iload dX12_lowest_6 rfl ?_
    refine k_aload_n dX12_lowest_8 rfl ?_
    refine k_callVi [] dX12_lowest_9 s_X12_lowest_61 rfl m_xChildren rfl (Nat.le_of_ble_eq_true rfl) sh_o86 ⟨_, rfl, rfl⟩ (Nat.le_of_ble_eq_true rfl) ?_
    rintro _ _ ⟨rfl, rfl⟩
    refine k_icmp_ge 48 dX12_lowest_12 (by decide) ⟨by omega, by omega⟩ ⟨by omega, by omega⟩ (fun h12 => ?_) (fun h12 => absurd h12 (by omega))
    refine k_iload_n dX12_lowest_48 rfl ?_
    exact k_iret dX12_lowest_49 rfl ⟨_, rfl, rfl, rfl⟩
  · have bI' := hok i
    have b3 := q_low_b hok (sg := V 0 0) (set := set) (x := x) i
    have cb := q_ct_b (k := V 1 i) (hV.2.2.2 i).2.1 ht
    have e := q_low.eq_2 (V 0 0) (vP V t) (vH V t) set x i
    refine k_iload dX12_lowest_6 rfl ?_
    refine k_aload_n dX12_lowest_8 rfl ?_
    refine k_callVi [] dX12_lowest_9 s_X12_lowest_61 rfl m_xChildren rfl (Nat.le_of_ble_eq_true rfl) sh_o86 ⟨_, rfl, rfl⟩ (Nat.le_of_ble_eq_true rfl) ?_
    rintro _ _ ⟨rfl, rfl⟩
    refine k_icmp_ge 48 dX12_lowest_12 (by decide) ⟨by omega, by omega⟩ ⟨by omega, by omega⟩ (fun h12 => absurd h12 (by omega)) (fun h12 => ?_)
    refine k_aload_n dX12_lowest_15 rfl ?_
    refine k_iload dX12_lowest_16 rfl ?_
    refine k_iload_n dX12_lowest_18 rfl ?_
    refine k_iload_n dX12_lowest_19 rfl ?_
    refine k_callVi [.int (iI _), .int (iI _), .int (iI _)] dX12_lowest_20 s_X12_lowest_135 rfl (m_xIsSeen hV hset hH (by omega) hx ht) rfl (Nat.le_of_ble_eq_true rfl) sh_o86 ⟨_, rfl, rfl⟩ (Nat.le_of_ble_eq_true rfl) ?_
    rintro _ _ ⟨rfl, rfl⟩
    refine k_ifb_eq 40 dX12_lowest_23 (by decide) (fun h23 => ?_) (fun h23 => ?_)
    · skip
      refine k_iload_n dX12_lowest_40 rfl ?_
      refine k_istore_n (L' := [_, _, _, _, _]) dX12_lowest_41 (Nat.le_of_ble_eq_true rfl) rfl ?_
      refine k_iinc (L' := [_, _, _, _, _]) dX12_lowest_42 rfl (Nat.le_of_ble_eq_true rfl) rfl ?_
      refine k_goto 6 dX12_lowest_45 (by decide) ?_
      first | (rw [if_pos h23, show vH V t i = q_ct (V 1 i) (V 2 i) t from q_ct_h (q_seen_iff.mp h23).2.1] at e; rw [← e]; exact ih) | (rw [if_neg h23] at e; rw [← e]; exact ih)
    · skip
      refine k_iload_n dX12_lowest_26 rfl ?_
      refine k_aload_n dX12_lowest_27 rfl ?_
      refine k_iload dX12_lowest_28 rfl ?_
      refine k_iload_n dX12_lowest_30 rfl ?_
      refine k_callVi [.int (iI _), .int (iI _)] dX12_lowest_31 s_X12_lowest_140 rfl (m_xCountsOf hV hset hH (by omega) ht) rfl (Nat.le_of_ble_eq_true rfl) sh_o86 ⟨_, rfl, rfl⟩ (Nat.le_of_ble_eq_true rfl) ?_
      rintro _ _ ⟨rfl, rfl⟩
      refine k_callSi [.int (iI _), .int (iI _)] dX12_lowest_34 s_X12_lowest_119 rfl (m_xLeast (by first | assumption | exact ⟨by omega, by omega⟩) (by first | assumption | exact ⟨by omega, by omega⟩)) rfl (Nat.le_of_ble_eq_true rfl) ?_
      rintro _ _ ⟨rfl, rfl⟩
      refine k_goto 41 dX12_lowest_37 (by decide) ?_
      refine k_istore_n (L' := [_, _, _, _, _]) dX12_lowest_41 (Nat.le_of_ble_eq_true rfl) rfl ?_
      refine k_iinc (L' := [_, _, _, _, _]) dX12_lowest_42 rfl (Nat.le_of_ble_eq_true rfl) rfl ?_
      refine k_goto 6 dX12_lowest_45 (by decide) ?_
      first | (rw [if_pos h23, show vH V t i = q_ct (V 1 i) (V 2 i) t from q_ct_h (q_seen_iff.mp h23).2.1] at e; rw [← e]; exact ih) | (rw [if_neg h23] at e; rw [← e]; exact ih)
theorem m_xLowest {V G : Mem} {set : Nat} (hV : Vok V) (hset : set < 64) (hH : HD V set G) {x : Int} (hx : 0 ≤ x ∧ x ≤ 47) {t : Int} (ht : 0 ≤ t ∧ t ≤ 60)  : MP M_X12_lowest [.ref 86, .int (iI x), .int (iI t)] G (vx (q_low (V 0 0) (vP V t) (vH V t) set x (V 0 2).toNat) G) := by
  refine MP.of [some (.ref 86), some (.int (iI x)), some (.int (iI t)), none, none] (plainFor_of_name pn_X12) (Nat.le_of_ble_eq_true rfl) rfl ?_
  refine k_bipush dX12_lowest_0 (by decide) ?_
  refine k_istore_n (L' := [_, _, _, _, _]) dX12_lowest_2 (Nat.le_of_ble_eq_true rfl) rfl ?_
  refine k_iconst dX12_lowest_3 ?_
  refine k_istore (L' := [_, _, _, _, _]) dX12_lowest_4 (Nat.le_of_ble_eq_true rfl) rfl ?_
  exact lp_lowest hV hset hH hx ht 0 (Nat.zero_le _)
theorem m_xLimitAt {V G : Mem} {set : Nat} (hV : Vok V) (hset : set < 64) (hH : HD V set G) {x : Int} (hx : 0 ≤ x ∧ x ≤ 47) {t : Int} (ht : 0 ≤ t ∧ t ≤ 60)  : MP M_X12_limitAt [.ref 86, .int (iI x), .int (iI t)] G (vx (vLim V t set x) G) := by
  have hn := hV.2.2.1
  have hl := hV.2.1
  have h0 := hH.1.1
  have h2 := hH.1.2.2
  have hok := vok hV ht
  refine MP.of [some (.ref 86), some (.int (iI x)), some (.int (iI t)), none, none, none] (plainFor_of_name pn_X12) (Nat.le_of_ble_eq_true rfl) rfl ?_
  rcases q_nb_ex (sg := V 0 0) (P := vP V t) (H := vH V t) (set := set) (x := x) (rk := -1) (V 0 2).toNat with hA | ⟨j, hj, hsj, hrj, hkj⟩
  · have hb1 := nbI_0 hA
    have hz : ∀ j, j < (V 0 2).toNat → ¬ q_seen (V 0 0) (vP V t) (vH V t) set x j = true := fun j hj hs => by
      have q1 := q_rk_b hok hx j (by omega)
      have q2 := q_nb_le (rk := -1) (V 0 2).toNat j hj hs (by omega)
      omega
    refine k_aload_n dX12_limitAt_0 rfl ?_
    refine k_iload_n dX12_limitAt_1 rfl ?_
    refine k_iload_n dX12_limitAt_2 rfl ?_
    refine k_iconst dX12_limitAt_3 ?_
    refine k_callVi [.int (iI _), .int (iI _), .int (iI _)] dX12_limitAt_4 s_X12_limitAt_143 rfl (m_xNearest (but := -1) (rk := -1) hV hset hH hx ht ⟨by decide, by decide⟩ (fun j hj _ => by have := q_rk_b hok hx j (by omega); omega)) rfl (Nat.le_of_ble_eq_true rfl) sh_o86 ⟨_, rfl, rfl⟩ (Nat.le_of_ble_eq_true rfl) ?_
    rintro _ _ ⟨rfl, rfl⟩
    rw [hb1]
    refine k_istore_n (L' := [_, _, _, _, _, _]) dX12_limitAt_7 (Nat.le_of_ble_eq_true rfl) rfl ?_
    refine k_iload_n dX12_limitAt_8 rfl ?_
    refine k_iconst dX12_limitAt_9 ?_
    refine k_icmp_ne 16 dX12_limitAt_10 (by decide) ⟨by omega, by omega⟩ ⟨by decide, by decide⟩ (fun h10 => absurd h10 (by omega)) (fun h10 => ?_)
    refine k_bipush dX12_limitAt_13 (by decide) ?_
    exact k_iret dX12_limitAt_15 rfl ⟨_, rfl, by unfold vLim q_lim; (by_cases z : V 0 1 = 1; (rw [if_pos z]; exact q_low_9 _ hz); (rw [if_neg z, if_pos hA])), rfl⟩
  · have b4 := q_rk_b hok hx j (by omega)
    have b6 := hok j
    have cJ : vH V t j = q_ct (V 1 j) (V 2 j) t := q_ct_h (q_seen_iff.mp hsj).2.1
    have hb1 := nbI_1 b4.2 (by omega) hrj
    have hne : ¬ q_nb (V 0 0) (vP V t) (vH V t) set x (-1) (V 0 2).toNat = 1048576 := by omega
    have hh1 := q_rk_h (P := vP V t) (x := x) (i := j) ⟨b6.2.2.1, b6.2.2.2⟩ (by omega)
    rw [← hrj] at hh1
    have hB2 : ∀ k : Nat, (k : Int) < V 0 2 → q_seen (V 0 0) (vP V t) (vH V t) set x k = true → ((k : Int) = (j : Int) ↔ ¬ q_nb (V 0 0) (vP V t) (vH V t) set x (-1) (V 0 2).toNat < q_rk (vP V t) (vH V t) x k) := fun k hk hs => by
      have q1 := q_rk_b hok hx k (by omega)
      have q2 := q_nb_le (rk := -1) (V 0 2).toNat k (by omega) hs (by omega)
      have r1 := q_rk_i (P := vP V t) (H := vH V t) (x := x) (i := k) (by omega)
      have r2 := q_rk_i (P := vP V t) (H := vH V t) (x := x) (i := j) (by omega)
      constructor
      · intro q
        have : k = j := by omega
        subst this
        omega
      · intro q
        have : q_rk (vP V t) (vH V t) x k = q_rk (vP V t) (vH V t) x j := by omega
        rw [this] at r1
        omega
    rcases q_nb_ex (sg := V 0 0) (P := vP V t) (H := vH V t) (set := set) (x := x) (rk := q_nb (V 0 0) (vP V t) (vH V t) set x (-1) (V 0 2).toNat) (V 0 2).toNat with hA2 | ⟨k, hk, hsk, hrk, hkk⟩
    · have hb2 := nbI_0 hA2
      refine k_aload_n dX12_limitAt_0 rfl ?_
      refine k_iload_n dX12_limitAt_1 rfl ?_
      refine k_iload_n dX12_limitAt_2 rfl ?_
      refine k_iconst dX12_limitAt_3 ?_
      refine k_callVi [.int (iI _), .int (iI _), .int (iI _)] dX12_limitAt_4 s_X12_limitAt_143 rfl (m_xNearest (but := -1) (rk := -1) hV hset hH hx ht ⟨by decide, by decide⟩ (fun j hj _ => by have := q_rk_b hok hx j (by omega); omega)) rfl (Nat.le_of_ble_eq_true rfl) sh_o86 ⟨_, rfl, rfl⟩ (Nat.le_of_ble_eq_true rfl) ?_
      rintro _ _ ⟨rfl, rfl⟩
      rw [hb1]
      refine k_istore_n (L' := [_, _, _, _, _, _]) dX12_limitAt_7 (Nat.le_of_ble_eq_true rfl) rfl ?_
      refine k_iload_n dX12_limitAt_8 rfl ?_
      refine k_iconst dX12_limitAt_9 ?_
      refine k_icmp_ne 16 dX12_limitAt_10 (by decide) ⟨by omega, by omega⟩ ⟨by decide, by decide⟩ (fun h10 => ?_) (fun h10 => absurd h10 (by omega))
      refine k_aload_n dX12_limitAt_16 rfl ?_
      refine k_getR dX12_limitAt_17 f_X12_7 (Nat.le_of_ble_eq_true rfl) sh_o86 (fun _ => rfl) ?_
      refine k_iconst dX12_limitAt_20 ?_
      refine k_iald 2 dX12_limitAt_21 (Nat.le_of_ble_eq_true rfl) sh_a87 (by decide) (by omega) (by omega) ?_
      refine k_iconst dX12_limitAt_22 ?_
      refine k_icmp_ne 33 dX12_limitAt_23 (by decide) ⟨by omega, by omega⟩ ⟨by decide, by decide⟩ (fun h23 => ?_) (fun h23 => ?_)
      · skip
        refine k_aload_n dX12_limitAt_33 rfl ?_
        refine k_getR dX12_limitAt_34 f_X12_7 (Nat.le_of_ble_eq_true rfl) sh_o86 (fun _ => rfl) ?_
        refine k_iconst dX12_limitAt_37 ?_
        refine k_iald 2 dX12_limitAt_38 (Nat.le_of_ble_eq_true rfl) sh_a87 (by decide) (by omega) (by omega) ?_
        refine k_iconst dX12_limitAt_39 ?_
        refine k_icmp_ne 53 dX12_limitAt_40 (by decide) ⟨by omega, by omega⟩ ⟨by decide, by decide⟩ (fun h40 => ?_) (fun h40 => ?_)
        · skip
          refine k_iconst dX12_limitAt_53 ?_
          refine k_istore (L' := [_, _, _, _, _, _]) dX12_limitAt_54 (Nat.le_of_ble_eq_true rfl) rfl ?_
          refine k_aload_n dX12_limitAt_56 rfl ?_
          refine k_iload_n dX12_limitAt_57 rfl ?_
          refine k_iload_n dX12_limitAt_58 rfl ?_
          refine k_callVi [.int (iI _), .int (iI _)] dX12_limitAt_59 s_X12_limitAt_140 rfl (m_xCountsOf hV hset hH (by omega) ht) rfl (Nat.le_of_ble_eq_true rfl) sh_o86 ⟨_, rfl, rfl⟩ (Nat.le_of_ble_eq_true rfl) ?_
          rintro _ _ ⟨rfl, rfl⟩
          refine k_istore (L' := [_, _, _, _, _, _]) dX12_limitAt_62 (Nat.le_of_ble_eq_true rfl) rfl ?_
          refine k_iload dX12_limitAt_64 rfl ?_
          refine k_iconst dX12_limitAt_66 ?_
          refine k_icmp_ne 75 dX12_limitAt_67 (by decide) ⟨by decide, by decide⟩ ⟨by decide, by decide⟩ (fun h => False.elim (by revert h; decide)) (fun _ => ?_)
          refine k_iload dX12_limitAt_70 rfl ?_
          refine k_goto 87 dX12_limitAt_72 (by decide) ?_
          exact k_iret dX12_limitAt_87 rfl ⟨_, rfl, by unfold vLim q_lim; first | (rw [if_pos (by omega)]; done) | (rw [if_neg (by omega), if_neg hne, if_pos (by omega)]; omega) | (rw [if_neg (by omega), if_neg hne, if_neg (by omega), if_pos hA2]; omega), rfl⟩
        · skip
          refine k_aload_n dX12_limitAt_43 rfl ?_
          refine k_iload_n dX12_limitAt_44 rfl ?_
          refine k_iload_n dX12_limitAt_45 rfl ?_
          refine k_iload_n dX12_limitAt_46 rfl ?_
          refine k_callVi [.int (iI _), .int (iI _), .int (iI _)] dX12_limitAt_47 s_X12_limitAt_143 rfl (m_xNearest (rk := q_nb (V 0 0) (vP V t) (vH V t) set x (-1) (V 0 2).toNat) hV hset hH hx ht ⟨by omega, by omega⟩ hB2) rfl (Nat.le_of_ble_eq_true rfl) sh_o86 ⟨_, rfl, rfl⟩ (Nat.le_of_ble_eq_true rfl) ?_
          rintro _ _ ⟨rfl, rfl⟩
          rw [hb2]
          refine k_goto 54 dX12_limitAt_50 (by decide) ?_
          refine k_istore (L' := [_, _, _, _, _, _]) dX12_limitAt_54 (Nat.le_of_ble_eq_true rfl) rfl ?_
          refine k_aload_n dX12_limitAt_56 rfl ?_
          refine k_iload_n dX12_limitAt_57 rfl ?_
          refine k_iload_n dX12_limitAt_58 rfl ?_
          refine k_callVi [.int (iI _), .int (iI _)] dX12_limitAt_59 s_X12_limitAt_140 rfl (m_xCountsOf hV hset hH (by omega) ht) rfl (Nat.le_of_ble_eq_true rfl) sh_o86 ⟨_, rfl, rfl⟩ (Nat.le_of_ble_eq_true rfl) ?_
          rintro _ _ ⟨rfl, rfl⟩
          refine k_istore (L' := [_, _, _, _, _, _]) dX12_limitAt_62 (Nat.le_of_ble_eq_true rfl) rfl ?_
          refine k_iload dX12_limitAt_64 rfl ?_
          refine k_iconst dX12_limitAt_66 ?_
          refine k_icmp_ne 75 dX12_limitAt_67 (by decide) ⟨by omega, by omega⟩ ⟨by decide, by decide⟩ (fun h67 => absurd h67 (by omega)) (fun h67 => ?_)
          refine k_iload dX12_limitAt_70 rfl ?_
          refine k_goto 87 dX12_limitAt_72 (by decide) ?_
          exact k_iret dX12_limitAt_87 rfl ⟨_, rfl, by unfold vLim q_lim; first | (rw [if_pos (by omega)]; done) | (rw [if_neg (by omega), if_neg hne, if_pos (by omega)]; omega) | (rw [if_neg (by omega), if_neg hne, if_neg (by omega), if_pos hA2]; omega), rfl⟩
      · skip
        refine k_aload_n dX12_limitAt_26 rfl ?_
        refine k_iload_n dX12_limitAt_27 rfl ?_
        refine k_iload_n dX12_limitAt_28 rfl ?_
        refine k_callVi [.int (iI _), .int (iI _)] dX12_limitAt_29 s_X12_limitAt_146 rfl (m_xLowest hV hset hH hx ht) rfl (Nat.le_of_ble_eq_true rfl) sh_o86 ⟨_, rfl, rfl⟩ (Nat.le_of_ble_eq_true rfl) ?_
        rintro _ _ ⟨rfl, rfl⟩
        exact k_iret dX12_limitAt_32 rfl ⟨_, rfl, by unfold vLim q_lim; first | (rw [if_pos (by omega)]; done) | (rw [if_neg (by omega), if_neg hne, if_pos (by omega)]; omega) | (rw [if_neg (by omega), if_neg hne, if_neg (by omega), if_pos hA2]; omega), rfl⟩
    · have c4 := q_rk_b hok hx k (by omega)
      have c6 := hok k
      have cK : vH V t k = q_ct (V 1 k) (V 2 k) t := q_ct_h (q_seen_iff.mp hsk).2.1
      have hb2 := nbI_1 c4.2 (by omega) hrk
      have hne2 : ¬ q_nb (V 0 0) (vP V t) (vH V t) set x (q_nb (V 0 0) (vP V t) (vH V t) set x (-1) (V 0 2).toNat) (V 0 2).toNat = 1048576 := by omega
      have hh2 := q_rk_h (P := vP V t) (x := x) (i := k) ⟨c6.2.2.1, c6.2.2.2⟩ (by omega)
      rw [← hrk] at hh2
      refine k_aload_n dX12_limitAt_0 rfl ?_
      refine k_iload_n dX12_limitAt_1 rfl ?_
      refine k_iload_n dX12_limitAt_2 rfl ?_
      refine k_iconst dX12_limitAt_3 ?_
      refine k_callVi [.int (iI _), .int (iI _), .int (iI _)] dX12_limitAt_4 s_X12_limitAt_143 rfl (m_xNearest (but := -1) (rk := -1) hV hset hH hx ht ⟨by decide, by decide⟩ (fun j hj _ => by have := q_rk_b hok hx j (by omega); omega)) rfl (Nat.le_of_ble_eq_true rfl) sh_o86 ⟨_, rfl, rfl⟩ (Nat.le_of_ble_eq_true rfl) ?_
      rintro _ _ ⟨rfl, rfl⟩
      rw [hb1]
      refine k_istore_n (L' := [_, _, _, _, _, _]) dX12_limitAt_7 (Nat.le_of_ble_eq_true rfl) rfl ?_
      refine k_iload_n dX12_limitAt_8 rfl ?_
      refine k_iconst dX12_limitAt_9 ?_
      refine k_icmp_ne 16 dX12_limitAt_10 (by decide) ⟨by omega, by omega⟩ ⟨by decide, by decide⟩ (fun h10 => ?_) (fun h10 => absurd h10 (by omega))
      refine k_aload_n dX12_limitAt_16 rfl ?_
      refine k_getR dX12_limitAt_17 f_X12_7 (Nat.le_of_ble_eq_true rfl) sh_o86 (fun _ => rfl) ?_
      refine k_iconst dX12_limitAt_20 ?_
      refine k_iald 2 dX12_limitAt_21 (Nat.le_of_ble_eq_true rfl) sh_a87 (by decide) (by omega) (by omega) ?_
      refine k_iconst dX12_limitAt_22 ?_
      refine k_icmp_ne 33 dX12_limitAt_23 (by decide) ⟨by omega, by omega⟩ ⟨by decide, by decide⟩ (fun h23 => ?_) (fun h23 => ?_)
      · skip
        refine k_aload_n dX12_limitAt_33 rfl ?_
        refine k_getR dX12_limitAt_34 f_X12_7 (Nat.le_of_ble_eq_true rfl) sh_o86 (fun _ => rfl) ?_
        refine k_iconst dX12_limitAt_37 ?_
        refine k_iald 2 dX12_limitAt_38 (Nat.le_of_ble_eq_true rfl) sh_a87 (by decide) (by omega) (by omega) ?_
        refine k_iconst dX12_limitAt_39 ?_
        refine k_icmp_ne 53 dX12_limitAt_40 (by decide) ⟨by omega, by omega⟩ ⟨by decide, by decide⟩ (fun h40 => ?_) (fun h40 => ?_)
        · skip
          refine k_iconst dX12_limitAt_53 ?_
          refine k_istore (L' := [_, _, _, _, _, _]) dX12_limitAt_54 (Nat.le_of_ble_eq_true rfl) rfl ?_
          refine k_aload_n dX12_limitAt_56 rfl ?_
          refine k_iload_n dX12_limitAt_57 rfl ?_
          refine k_iload_n dX12_limitAt_58 rfl ?_
          refine k_callVi [.int (iI _), .int (iI _)] dX12_limitAt_59 s_X12_limitAt_140 rfl (m_xCountsOf hV hset hH (by omega) ht) rfl (Nat.le_of_ble_eq_true rfl) sh_o86 ⟨_, rfl, rfl⟩ (Nat.le_of_ble_eq_true rfl) ?_
          rintro _ _ ⟨rfl, rfl⟩
          refine k_istore (L' := [_, _, _, _, _, _]) dX12_limitAt_62 (Nat.le_of_ble_eq_true rfl) rfl ?_
          refine k_iload dX12_limitAt_64 rfl ?_
          refine k_iconst dX12_limitAt_66 ?_
          refine k_icmp_ne 75 dX12_limitAt_67 (by decide) ⟨by decide, by decide⟩ ⟨by decide, by decide⟩ (fun h => False.elim (by revert h; decide)) (fun _ => ?_)
          refine k_iload dX12_limitAt_70 rfl ?_
          refine k_goto 87 dX12_limitAt_72 (by decide) ?_
          exact k_iret dX12_limitAt_87 rfl ⟨_, rfl, by unfold vLim q_lim; first | (rw [if_pos (by omega)]; done) | (rw [if_neg (by omega), if_neg hne, if_pos (by omega)]; omega) | (rw [if_neg (by omega), if_neg hne, if_neg (by omega), if_neg hne2]; omega), rfl⟩
        · skip
          refine k_aload_n dX12_limitAt_43 rfl ?_
          refine k_iload_n dX12_limitAt_44 rfl ?_
          refine k_iload_n dX12_limitAt_45 rfl ?_
          refine k_iload_n dX12_limitAt_46 rfl ?_
          refine k_callVi [.int (iI _), .int (iI _), .int (iI _)] dX12_limitAt_47 s_X12_limitAt_143 rfl (m_xNearest (rk := q_nb (V 0 0) (vP V t) (vH V t) set x (-1) (V 0 2).toNat) hV hset hH hx ht ⟨by omega, by omega⟩ hB2) rfl (Nat.le_of_ble_eq_true rfl) sh_o86 ⟨_, rfl, rfl⟩ (Nat.le_of_ble_eq_true rfl) ?_
          rintro _ _ ⟨rfl, rfl⟩
          rw [hb2]
          refine k_goto 54 dX12_limitAt_50 (by decide) ?_
          refine k_istore (L' := [_, _, _, _, _, _]) dX12_limitAt_54 (Nat.le_of_ble_eq_true rfl) rfl ?_
          refine k_aload_n dX12_limitAt_56 rfl ?_
          refine k_iload_n dX12_limitAt_57 rfl ?_
          refine k_iload_n dX12_limitAt_58 rfl ?_
          refine k_callVi [.int (iI _), .int (iI _)] dX12_limitAt_59 s_X12_limitAt_140 rfl (m_xCountsOf hV hset hH (by omega) ht) rfl (Nat.le_of_ble_eq_true rfl) sh_o86 ⟨_, rfl, rfl⟩ (Nat.le_of_ble_eq_true rfl) ?_
          rintro _ _ ⟨rfl, rfl⟩
          refine k_istore (L' := [_, _, _, _, _, _]) dX12_limitAt_62 (Nat.le_of_ble_eq_true rfl) rfl ?_
          refine k_iload dX12_limitAt_64 rfl ?_
          refine k_iconst dX12_limitAt_66 ?_
          refine k_icmp_ne 75 dX12_limitAt_67 (by decide) ⟨by omega, by omega⟩ ⟨by decide, by decide⟩ (fun h67 => ?_) (fun h67 => ?_)
          · skip
            refine k_iload dX12_limitAt_75 rfl ?_
            refine k_aload_n dX12_limitAt_77 rfl ?_
            refine k_iload dX12_limitAt_78 rfl ?_
            refine k_iload_n dX12_limitAt_80 rfl ?_
            refine k_callVi [.int (iI _), .int (iI _)] dX12_limitAt_81 s_X12_limitAt_140 rfl (m_xCountsOf hV hset hH (by omega) ht) rfl (Nat.le_of_ble_eq_true rfl) sh_o86 ⟨_, rfl, rfl⟩ (Nat.le_of_ble_eq_true rfl) ?_
            rintro _ _ ⟨rfl, rfl⟩
            refine k_iadd dX12_limitAt_84 ?_
            refine k_iconst dX12_limitAt_85 ?_
            refine k_idiv dX12_limitAt_86 (by omega) (by omega) ?_
            exact k_iret dX12_limitAt_87 rfl ⟨_, rfl, by unfold vLim q_lim; first | (rw [if_pos (by omega)]; done) | (rw [if_neg (by omega), if_neg hne, if_pos (by omega)]; omega) | (rw [if_neg (by omega), if_neg hne, if_neg (by omega), if_neg hne2]; omega), rfl⟩
          · skip
            refine k_iload dX12_limitAt_70 rfl ?_
            refine k_goto 87 dX12_limitAt_72 (by decide) ?_
            exact k_iret dX12_limitAt_87 rfl ⟨_, rfl, by unfold vLim q_lim; first | (rw [if_pos (by omega)]; done) | (rw [if_neg (by omega), if_neg hne, if_pos (by omega)]; omega) | (rw [if_neg (by omega), if_neg hne, if_neg (by omega), if_neg hne2]; omega), rfl⟩
      · skip
        refine k_aload_n dX12_limitAt_26 rfl ?_
        refine k_iload_n dX12_limitAt_27 rfl ?_
        refine k_iload_n dX12_limitAt_28 rfl ?_
        refine k_callVi [.int (iI _), .int (iI _)] dX12_limitAt_29 s_X12_limitAt_146 rfl (m_xLowest hV hset hH hx ht) rfl (Nat.le_of_ble_eq_true rfl) sh_o86 ⟨_, rfl, rfl⟩ (Nat.le_of_ble_eq_true rfl) ?_
        rintro _ _ ⟨rfl, rfl⟩
        exact k_iret dX12_limitAt_32 rfl ⟨_, rfl, by unfold vLim q_lim; first | (rw [if_pos (by omega)]; done) | (rw [if_neg (by omega), if_neg hne, if_pos (by omega)]; omega) | (rw [if_neg (by omega), if_neg hne, if_neg (by omega), if_neg hne2]; omega), rfl⟩
