/-! ===== the Model: drives ===== -/
/-- the Model's scratch alone has changed -/
def SC (G g : Mem) : Prop := ∀ a b, (a < 91 ∨ a = 98) → ¬ (a = 86 ∧ (b = 8 ∨ (16 ≤ b ∧ b ≤ 19))) → g a b = G a b
theorem SC.rf {G : Mem} : SC G G := fun _ _ _ _ => rfl
theorem SC.tr {G g k : Mem} (h1 : SC G g) (h2 : SC g k) : SC G k := fun a b x y => (h2 a b x y).trans (h1 a b x y)
theorem HF.sc {G g : Mem} (h : HF G g) : SC G g := fun a b x y => h a b (by omega) (by omega) (by omega)
theorem HD.fr {V : Mem} {set : Nat} {G g : Mem} (h : HD V set G) (k : ∀ a b, (a = 87 ∨ a = 91 ∨ a = 92 ∨ (a = 86 ∧ b = 8)) → g a b = G a b) : HD V set g := by
  have e : ∀ b, g 87 b = G 87 b := fun b => k 87 b (by omega)
  have e1 : ∀ b, g 91 b = G 91 b := fun b => k 91 b (by omega)
  have e2 : ∀ b, g 92 b = G 92 b := fun b => k 92 b (by omega)
  have e3 : g 86 8 = G 86 8 := k 86 8 (by omega)
  unfold HD
  simp only [e, e1, e2, e3]
  exact h
theorem NW.sc {V G g : Mem} (h : NW V G) (k : SC G g) : NW V g := by
  have e : ∀ b, g 87 b = G 87 b := fun b => k 87 b (by decide) (by omega)
  unfold NW
  simp only [e]
  exact h
theorem vAll_in {V : Mem} (hV : Vok V) {c : Nat} (hc : (c : Int) < V 0 2) : q_in (vAll V) c = true := by
  have h := hV.2.2.1
  have d : ∀ n : Nat, n ≤ 6 → ∀ c : Nat, c < n → q_in (2 ^ n - 1) c = true := by decide +kernel
  exact d (V 0 2).toNat (by omega) c (by omega)
theorem lp_of0 {V G g1 : Mem} (hV : Vok V) (hN : NW V G) {c : Nat} {t : Int} (hi : (c : Int) < V 0 2) (ht : 0 ≤ t ∧ t ≤ 59) (hF : HF G g1) (hH : HD V (vAll V) g1) : RP M_X12_of 113 [some (.ref 86), some (.int (iI (c : Int))), some (.int (iI t)), some (.int (iI 0))] [] g1 (vi fun v g => V 1 c = v ∧ SC G g) := by
  have hn := hV.2.2.1
  have hset := vAll_lt hV
  have hh := hH.2.2 c hi
  have hk1 := (hN.hf hF).2 c hi
  have hin : q_in (vAll V) c = true := vAll_in hV hi
  · skip
    refine k_aload_n dX12_of_113 rfl ?_
    refine k_iload_n dX12_of_114 rfl ?_
    refine k_iload_n dX12_of_115 rfl ?_
    refine k_callVi [.int (iI _), .int (iI _)] dX12_of_116 s_X12_of_98 rfl (m_xGet0 (by omega)) rfl (Nat.le_of_ble_eq_true rfl) sh_o86 ⟨_, rfl, rfl⟩ (Nat.le_of_ble_eq_true rfl) ?_
    rintro _ _ ⟨rfl, rfl⟩
    exact k_iret dX12_of_119 rfl ⟨_, rfl, by first | exact hh.2.2.2.1.symm | exact hh.2.2.2.2.symm | exact hh.2.1.symm | exact hk1.1.symm | exact hk1.2.1.symm | exact q_ct_h h85.2 | (have hq := vH_b hV (t := t) (by omega) c; have z : ¬ 0 < vH V t c := fun z => h85 ⟨hin, z⟩; omega) | rfl, hF.sc⟩
theorem lp_of1 {V G g1 : Mem} (hV : Vok V) (hN : NW V G) {c : Nat} {t : Int} (hi : (c : Int) < V 0 2) (ht : 0 ≤ t ∧ t ≤ 59) (hF : HF G g1) (hH : HD V (vAll V) g1) : RP M_X12_of 113 [some (.ref 86), some (.int (iI (c : Int))), some (.int (iI t)), some (.int (iI 1))] [] g1 (vi fun v g => V 2 c = v ∧ SC G g) := by
  have hn := hV.2.2.1
  have hset := vAll_lt hV
  have hh := hH.2.2 c hi
  have hk1 := (hN.hf hF).2 c hi
  have hin : q_in (vAll V) c = true := vAll_in hV hi
  · skip
    refine k_aload_n dX12_of_113 rfl ?_
    refine k_iload_n dX12_of_114 rfl ?_
    refine k_iload_n dX12_of_115 rfl ?_
    refine k_callVi [.int (iI _), .int (iI _)] dX12_of_116 s_X12_of_98 rfl (m_xGet1 (by omega)) rfl (Nat.le_of_ble_eq_true rfl) sh_o86 ⟨_, rfl, rfl⟩ (Nat.le_of_ble_eq_true rfl) ?_
    rintro _ _ ⟨rfl, rfl⟩
    exact k_iret dX12_of_119 rfl ⟨_, rfl, by first | exact hh.2.2.2.1.symm | exact hh.2.2.2.2.symm | exact hh.2.1.symm | exact hk1.1.symm | exact hk1.2.1.symm | exact q_ct_h h85.2 | (have hq := vH_b hV (t := t) (by omega) c; have z : ¬ 0 < vH V t c := fun z => h85 ⟨hin, z⟩; omega) | rfl, hF.sc⟩
theorem lp_of2 {V G g1 : Mem} (hV : Vok V) (hN : NW V G) {c : Nat} {t : Int} (hi : (c : Int) < V 0 2) (ht : 0 ≤ t ∧ t ≤ 59) (hF : HF G g1) (hH : HD V (vAll V) g1) : RP M_X12_of 72 [some (.ref 86), some (.int (iI (c : Int))), some (.int (iI t)), some (.int (iI 2))] [] g1 (vi fun v g => vP V t c = v ∧ SC G g) := by
  have hn := hV.2.2.1
  have hset := vAll_lt hV
  have hh := hH.2.2 c hi
  have hk1 := (hN.hf hF).2 c hi
  have hin : q_in (vAll V) c = true := vAll_in hV hi
  · skip
    refine k_aload_n dX12_of_72 rfl ?_
    refine k_iload_n dX12_of_73 rfl ?_
    refine k_iload_n dX12_of_74 rfl ?_
    refine k_callVi [.int (iI _), .int (iI _)] dX12_of_75 s_X12_of_129 rfl (m_xCellOf hV hset hH hi (by omega)) rfl (Nat.le_of_ble_eq_true rfl) sh_o86 ⟨_, rfl, rfl⟩ (Nat.le_of_ble_eq_true rfl) ?_
    rintro _ _ ⟨rfl, rfl⟩
    exact k_iret dX12_of_78 rfl ⟨_, rfl, by first | exact hh.2.2.2.1.symm | exact hh.2.2.2.2.symm | exact hh.2.1.symm | exact hk1.1.symm | exact hk1.2.1.symm | exact q_ct_h h85.2 | (have hq := vH_b hV (t := t) (by omega) c; have z : ¬ 0 < vH V t c := fun z => h85 ⟨hin, z⟩; omega) | rfl, hF.sc⟩
theorem lp_of3 {V G g1 : Mem} (hV : Vok V) (hN : NW V G) {c : Nat} {t : Int} (hi : (c : Int) < V 0 2) (ht : 0 ≤ t ∧ t ≤ 59) (hF : HF G g1) (hH : HD V (vAll V) g1) : RP M_X12_of 79 [some (.ref 86), some (.int (iI (c : Int))), some (.int (iI t)), some (.int (iI 3))] [] g1 (vi fun v g => vH V t c = v ∧ SC G g) := by
  have hn := hV.2.2.1
  have hset := vAll_lt hV
  have hh := hH.2.2 c hi
  have hk1 := (hN.hf hF).2 c hi
  have hin : q_in (vAll V) c = true := vAll_in hV hi
  · skip
    refine k_aload_n dX12_of_79 rfl ?_
    refine k_iload_n dX12_of_80 rfl ?_
    refine k_iload_n dX12_of_81 rfl ?_
    refine k_callVi [.int (iI _), .int (iI _)] dX12_of_82 s_X12_of_125 rfl (m_xIsOut hV hset hH hi (by omega)) rfl (Nat.le_of_ble_eq_true rfl) sh_o86 ⟨_, rfl, rfl⟩ (Nat.le_of_ble_eq_true rfl) ?_
    rintro _ _ ⟨rfl, rfl⟩
    refine k_ifb_eq 97 dX12_of_85 (by decide) (fun h85 => ?_) (fun h85 => ?_)
    · skip
      refine k_iconst dX12_of_97 ?_
      exact k_iret dX12_of_98 rfl ⟨_, rfl, by first | exact hh.2.2.2.1.symm | exact hh.2.2.2.2.symm | exact hh.2.1.symm | exact hk1.1.symm | exact hk1.2.1.symm | exact q_ct_h h85.2 | (have hq := vH_b hV (t := t) (by omega) c; have z : ¬ 0 < vH V t c := fun z => h85 ⟨hin, z⟩; omega) | rfl, hF.sc⟩
    · skip
      refine k_aload_n dX12_of_88 rfl ?_
      refine k_iload_n dX12_of_89 rfl ?_
      refine k_iload_n dX12_of_90 rfl ?_
      refine k_callVi [.int (iI _), .int (iI _)] dX12_of_91 s_X12_of_140 rfl (m_xCountsOf hV hset hH hi (by omega)) rfl (Nat.le_of_ble_eq_true rfl) sh_o86 ⟨_, rfl, rfl⟩ (Nat.le_of_ble_eq_true rfl) ?_
      rintro _ _ ⟨rfl, rfl⟩
      refine k_goto 98 dX12_of_94 (by decide) ?_
      exact k_iret dX12_of_98 rfl ⟨_, rfl, by first | exact hh.2.2.2.1.symm | exact hh.2.2.2.2.symm | exact hh.2.1.symm | exact hk1.1.symm | exact hk1.2.1.symm | exact q_ct_h h85.2 | (have hq := vH_b hV (t := t) (by omega) c; have z : ¬ 0 < vH V t c := fun z => h85 ⟨hin, z⟩; omega) | rfl, hF.sc⟩
theorem lp_of4 {V G g1 : Mem} (hV : Vok V) (hN : NW V G) {c : Nat} {t : Int} (hi : (c : Int) < V 0 2) (ht : 0 ≤ t ∧ t ≤ 59) (hF : HF G g1) (hH : HD V (vAll V) g1) : RP M_X12_of 99 [some (.ref 86), some (.int (iI (c : Int))), some (.int (iI t)), some (.int (iI 4))] [] g1 (vi fun v g => V 4 c = v ∧ SC G g) := by
  have hn := hV.2.2.1
  have hset := vAll_lt hV
  have hh := hH.2.2 c hi
  have hk1 := (hN.hf hF).2 c hi
  have hin : q_in (vAll V) c = true := vAll_in hV hi
  · skip
    refine k_aload_n dX12_of_99 rfl ?_
    refine k_iload_n dX12_of_100 rfl ?_
    refine k_iconst dX12_of_101 ?_
    refine k_callVi [.int (iI _), .int (iI _)] dX12_of_102 s_X12_of_98 rfl (m_xGet3 (by omega)) rfl (Nat.le_of_ble_eq_true rfl) sh_o86 ⟨_, rfl, rfl⟩ (Nat.le_of_ble_eq_true rfl) ?_
    rintro _ _ ⟨rfl, rfl⟩
    exact k_iret dX12_of_105 rfl ⟨_, rfl, by first | exact hh.2.2.2.1.symm | exact hh.2.2.2.2.symm | exact hh.2.1.symm | exact hk1.1.symm | exact hk1.2.1.symm | exact q_ct_h h85.2 | (have hq := vH_b hV (t := t) (by omega) c; have z : ¬ 0 < vH V t c := fun z => h85 ⟨hin, z⟩; omega) | rfl, hF.sc⟩
theorem lp_of5 {V G g1 : Mem} (hV : Vok V) (hN : NW V G) {c : Nat} {t : Int} (hi : (c : Int) < V 0 2) (ht : 0 ≤ t ∧ t ≤ 59) (hF : HF G g1) (hH : HD V (vAll V) g1) : RP M_X12_of 106 [some (.ref 86), some (.int (iI (c : Int))), some (.int (iI t)), some (.int (iI 5))] [] g1 (vi fun v g => V 5 c = v ∧ SC G g) := by
  have hn := hV.2.2.1
  have hset := vAll_lt hV
  have hh := hH.2.2 c hi
  have hk1 := (hN.hf hF).2 c hi
  have hin : q_in (vAll V) c = true := vAll_in hV hi
  · skip
    refine k_aload_n dX12_of_106 rfl ?_
    refine k_iload_n dX12_of_107 rfl ?_
    refine k_iconst dX12_of_108 ?_
    refine k_callVi [.int (iI _), .int (iI _)] dX12_of_109 s_X12_of_98 rfl (m_xGet4 (by omega)) rfl (Nat.le_of_ble_eq_true rfl) sh_o86 ⟨_, rfl, rfl⟩ (Nat.le_of_ble_eq_true rfl) ?_
    rintro _ _ ⟨rfl, rfl⟩
    exact k_iret dX12_of_112 rfl ⟨_, rfl, by first | exact hh.2.2.2.1.symm | exact hh.2.2.2.2.symm | exact hh.2.1.symm | exact hk1.1.symm | exact hk1.2.1.symm | exact q_ct_h h85.2 | (have hq := vH_b hV (t := t) (by omega) c; have z : ¬ 0 < vH V t c := fun z => h85 ⟨hin, z⟩; omega) | rfl, hF.sc⟩
theorem lp_of {V G g1 : Mem} (hV : Vok V) (hN : NW V G) {c : Nat} {t w : Int} (hi : (c : Int) < V 0 2) (ht : 0 ≤ t ∧ t ≤ 59) (hw : 0 ≤ w ∧ w ≤ 5) (hF : HF G g1) (hH : HD V (vAll V) g1) : RP M_X12_of 42 [some (.ref 86), some (.int (iI (c : Int))), some (.int (iI t)), some (.int (iI w))] [] g1 (vi fun v g => (if w = 0 then V 1 c else if w = 1 then V 2 c else if w = 2 then vP V t c else if w = 3 then vH V t c else if w = 4 then V 4 c else V 5 c) = v ∧ SC G g) := by
  rcases (show w = 0 ∨ ¬ w = 0 by omega) with hts | hts
  · subst hts
    refine k_iload_n dX12_of_42 rfl ?_
    refine k_tsOut 113 dX12_of_43 ⟨by decide, by decide⟩ (by decide) (by decide) ?_
    refine (lp_of0 hV hN hi ht hF hH).mono ?_
    rintro o g ⟨v, h1, h2, h3⟩
    exact ⟨v, h1, by rw [if_pos rfl]; exact h2, h3⟩
  rcases (show w = 1 ∨ ¬ w = 1 by omega) with hts | hts
  · subst hts
    refine k_iload_n dX12_of_42 rfl ?_
    refine k_tsOut 113 dX12_of_43 ⟨by decide, by decide⟩ (by decide) (by decide) ?_
    refine (lp_of1 hV hN hi ht hF hH).mono ?_
    rintro o g ⟨v, h1, h2, h3⟩
    exact ⟨v, h1, by rw [if_neg (by decide), if_pos rfl]; exact h2, h3⟩
  rcases (show w = 2 ∨ ¬ w = 2 by omega) with hts | hts
  · subst hts
    refine k_iload_n dX12_of_42 rfl ?_
    refine k_tsIn 72 dX12_of_43 2 rfl ⟨by decide, by decide⟩ ⟨by decide, by decide⟩ (off := 29) rfl (by decide) ?_
    refine (lp_of2 hV hN hi ht hF hH).mono ?_
    rintro o g ⟨v, h1, h2, h3⟩
    exact ⟨v, h1, by rw [if_neg (by decide), if_neg (by decide), if_pos rfl]; exact h2, h3⟩
  rcases (show w = 3 ∨ ¬ w = 3 by omega) with hts | hts
  · subst hts
    refine k_iload_n dX12_of_42 rfl ?_
    refine k_tsIn 79 dX12_of_43 3 rfl ⟨by decide, by decide⟩ ⟨by decide, by decide⟩ (off := 36) rfl (by decide) ?_
    refine (lp_of3 hV hN hi ht hF hH).mono ?_
    rintro o g ⟨v, h1, h2, h3⟩
    exact ⟨v, h1, by rw [if_neg (by decide), if_neg (by decide), if_neg (by decide), if_pos rfl]; exact h2, h3⟩
  rcases (show w = 4 ∨ ¬ w = 4 by omega) with hts | hts
  · subst hts
    refine k_iload_n dX12_of_42 rfl ?_
    refine k_tsIn 99 dX12_of_43 4 rfl ⟨by decide, by decide⟩ ⟨by decide, by decide⟩ (off := 56) rfl (by decide) ?_
    refine (lp_of4 hV hN hi ht hF hH).mono ?_
    rintro o g ⟨v, h1, h2, h3⟩
    exact ⟨v, h1, by rw [if_neg (by decide), if_neg (by decide), if_neg (by decide), if_neg (by decide), if_pos rfl]; exact h2, h3⟩
  have hts5 : w = 5 := by omega
  subst hts5
  · refine k_iload_n dX12_of_42 rfl ?_
    refine k_tsIn 106 dX12_of_43 5 rfl ⟨by decide, by decide⟩ ⟨by decide, by decide⟩ (off := 63) rfl (by decide) ?_
    refine (lp_of5 hV hN hi ht hF hH).mono ?_
    rintro o g ⟨v, h1, h2, h3⟩
    exact ⟨v, h1, by rw [if_neg (by decide), if_neg (by decide), if_neg (by decide), if_neg (by decide), if_neg (by decide)]; exact h2, h3⟩
theorem m_xOf {V G : Mem} (hV : Vok V) (hN : NW V G) {c t w : Int} (hc : R32 c) (ht : R32 t) (hw : R32 w) : MP M_X12_of [.ref 86, .int (iI c), .int (iI t), .int (iI w)] G (vi fun v g => if ((0 ≤ c ∧ c ≤ V 0 2 - 1) ∧ (0 ≤ t ∧ t ≤ 59)) ∧ (0 ≤ w ∧ w ≤ 5) then ((if w = 0 then V 1 c.toNat else if w = 1 then V 2 c.toNat else if w = 2 then vP V t c.toNat else if w = 3 then vH V t c.toNat else if w = 4 then V 4 c.toNat else V 5 c.toNat) = v ∧ SC G g) else (-2 = v ∧ xB G = g)) := by
  have h0 := hN.1.1
  have hn := hV.2.2.1
  have hset := vAll_lt hV
  refine MP.of [some (.ref 86), some (.int (iI c)), some (.int (iI t)), some (.int (iI w))] (plainFor_of_name pn_X12) (Nat.le_of_ble_eq_true rfl) rfl ?_
  refine k_aload_n dX12_of_0 rfl ?_
  refine k_iload_n dX12_of_1 rfl ?_
  refine k_callVi [.int (iI _)] dX12_of_2 s_X12_of_105 rfl (m_xIsChild (by omega) (by assumption)) rfl (Nat.le_of_ble_eq_true rfl) sh_o86 ⟨_, rfl, rfl⟩ (Nat.le_of_ble_eq_true rfl) ?_
  rintro _ _ ⟨rfl, rfl⟩
  refine k_ifb_eq 27 dX12_of_5 (by decide) (fun h5 => ?_) (fun h5 => ?_)
  · skip
    refine k_aload_n dX12_of_27 rfl ?_
    refine k_bipush dX12_of_28 (by decide) ?_
    refine k_callVi [.int (iI _)] dX12_of_30 s_X12_of_75 rfl m_xBad rfl (Nat.le_of_ble_eq_true rfl) sh_o86 ⟨_, rfl, rfl⟩ (Nat.le_of_ble_eq_true rfl) ?_
    rintro _ _ ⟨rfl, rfl⟩
    exact k_iret dX12_of_33 rfl ⟨_, rfl, by (try dsimp only); first | (rw [if_neg (by omega)]; exact ⟨rfl, rfl⟩)⟩
  · skip
    refine k_iload_n dX12_of_8 rfl ?_
    refine k_callSi [.int (iI _)] dX12_of_9 s_X12_of_149 rfl (m_xisMinute (by first | assumption | exact ⟨by omega, by omega⟩)) rfl (Nat.le_of_ble_eq_true rfl) ?_
    rintro _ _ ⟨rfl, rfl⟩
    refine k_ifb_eq 27 dX12_of_12 (by decide) (fun h12 => ?_) (fun h12 => ?_)
    · skip
      refine k_aload_n dX12_of_27 rfl ?_
      refine k_bipush dX12_of_28 (by decide) ?_
      refine k_callVi [.int (iI _)] dX12_of_30 s_X12_of_75 rfl m_xBad rfl (Nat.le_of_ble_eq_true rfl) sh_o86 ⟨_, rfl, rfl⟩ (Nat.le_of_ble_eq_true rfl) ?_
      rintro _ _ ⟨rfl, rfl⟩
      exact k_iret dX12_of_33 rfl ⟨_, rfl, by (try dsimp only); first | (rw [if_neg (by omega)]; exact ⟨rfl, rfl⟩)⟩
    · skip
      refine k_iload_n dX12_of_15 rfl ?_
      refine k_i2l dX12_of_16 ⟨by omega, by omega⟩ ?_
      refine k_lconst dX12_of_17 ?_
      refine k_ldc2 5 dX12_of_18 w_926 ?_
      refine k_callSi [.long (lI _), .long (lI _), .long (lI _)] dX12_of_21 s_X12_of_65 rfl (m_xIn (by first | assumption | exact ⟨by omega, by omega⟩) (by first | assumption | exact ⟨by omega, by omega⟩) (by first | assumption | exact ⟨by omega, by omega⟩)) rfl (Nat.le_of_ble_eq_true rfl) ?_
      rintro _ _ ⟨rfl, rfl⟩
      refine k_ifb_ne 34 dX12_of_24 (by decide) (fun h24 => ?_) (fun h24 => ?_)
      · skip
        refine k_aload_n dX12_of_34 rfl ?_
        refine k_aload_n dX12_of_35 rfl ?_
        refine k_callVi [] dX12_of_36 s_X12_of_152 rfl (NW.all hN hV) rfl (Nat.le_of_ble_eq_true rfl) sh_o86 ⟨_, rfl, rfl⟩ (Nat.le_of_ble_eq_true rfl) ?_
        rintro _ _ ⟨rfl, rfl⟩
        refine k_callVv [.int (iI _)] dX12_of_39 s_X12_of_155 rfl (m_xLayHand hV hN) rfl (Nat.le_of_ble_eq_true rfl) sh_o86 ⟨_, rfl, rfl⟩ (Nat.le_of_ble_eq_true rfl) ?_
        rintro g1 ⟨hF, hH⟩
        obtain ⟨cn, rfl⟩ : ∃ k : Nat, c = (k : Int) := ⟨c.toNat, by omega⟩
        simp only [Int.toNat_natCast]
        refine (lp_of hV hN (by omega) (by omega) (by omega) hF hH).mono ?_
        rintro o k ⟨v, h1, h2, h3⟩
        exact ⟨v, h1, by dsimp only; rw [if_pos (by omega)]; exact ⟨h2, h3⟩⟩
      · skip
        refine k_aload_n dX12_of_27 rfl ?_
        refine k_bipush dX12_of_28 (by decide) ?_
        refine k_callVi [.int (iI _)] dX12_of_30 s_X12_of_75 rfl m_xBad rfl (Nat.le_of_ble_eq_true rfl) sh_o86 ⟨_, rfl, rfl⟩ (Nat.le_of_ble_eq_true rfl) ?_
        rintro _ _ ⟨rfl, rfl⟩
        exact k_iret dX12_of_33 rfl ⟨_, rfl, by (try dsimp only); first | (rw [if_neg (by omega)]; exact ⟨rfl, rfl⟩)⟩
theorem m_xLimit {V G : Mem} (hV : Vok V) (hN : NW V G) {x t w : Int} (hx : R32 x) (ht : R32 t) (hw : R32 w) : MP M_X12_limit [.ref 86, .int (iI x), .int (iI t), .int (iI w)] G (vi fun v g => if (0 ≤ x ∧ x ≤ 47) ∧ (0 ≤ t ∧ t ≤ 59) ∧ (0 ≤ w ∧ w ≤ 1) then ((if w = 0 then vLim V t (vAll V) x else nbI (q_nb (V 0 0) (vP V t) (vH V t) (vAll V) x (-1) (V 0 2).toNat)) = v ∧ SC G g) else (-10 = v ∧ xB G = g)) := by
  have h0 := hN.1.1
  have hn := hV.2.2.1
  have hset := vAll_lt hV
  refine MP.of [some (.ref 86), some (.int (iI x)), some (.int (iI t)), some (.int (iI w))] (plainFor_of_name pn_X12) (Nat.le_of_ble_eq_true rfl) rfl ?_
  refine k_iload_n dX12_limit_0 rfl ?_
  refine k_callSi [.int (iI _)] dX12_limit_1 s_X12_limit_83 rfl (m_xisCell (by first | assumption | exact ⟨by omega, by omega⟩)) rfl (Nat.le_of_ble_eq_true rfl) ?_
  rintro _ _ ⟨rfl, rfl⟩
  refine k_ifb_eq 24 dX12_limit_4 (by decide) (fun h4 => ?_) (fun h4 => ?_)
  · skip
    refine k_aload_n dX12_limit_24 rfl ?_
    refine k_bipush dX12_limit_25 (by decide) ?_
    refine k_callVi [.int (iI _)] dX12_limit_27 s_X12_limit_75 rfl m_xBad rfl (Nat.le_of_ble_eq_true rfl) sh_o86 ⟨_, rfl, rfl⟩ (Nat.le_of_ble_eq_true rfl) ?_
    rintro _ _ ⟨rfl, rfl⟩
    exact k_iret dX12_limit_30 rfl ⟨_, rfl, by (try dsimp only); first | (rw [if_neg (by omega)]; exact ⟨rfl, rfl⟩) | (rw [if_pos (by omega)]; rw [if_pos (by omega)]; exact ⟨rfl, hF.sc⟩) | (rw [if_pos (by omega)]; rw [if_neg (by omega)]; exact ⟨rfl, hF.sc⟩)⟩
  · skip
    refine k_iload_n dX12_limit_7 rfl ?_
    refine k_callSi [.int (iI _)] dX12_limit_8 s_X12_limit_149 rfl (m_xisMinute (by first | assumption | exact ⟨by omega, by omega⟩)) rfl (Nat.le_of_ble_eq_true rfl) ?_
    rintro _ _ ⟨rfl, rfl⟩
    refine k_ifb_eq 24 dX12_limit_11 (by decide) (fun h11 => ?_) (fun h11 => ?_)
    · skip
      refine k_aload_n dX12_limit_24 rfl ?_
      refine k_bipush dX12_limit_25 (by decide) ?_
      refine k_callVi [.int (iI _)] dX12_limit_27 s_X12_limit_75 rfl m_xBad rfl (Nat.le_of_ble_eq_true rfl) sh_o86 ⟨_, rfl, rfl⟩ (Nat.le_of_ble_eq_true rfl) ?_
      rintro _ _ ⟨rfl, rfl⟩
      exact k_iret dX12_limit_30 rfl ⟨_, rfl, by (try dsimp only); first | (rw [if_neg (by omega)]; exact ⟨rfl, rfl⟩) | (rw [if_pos (by omega)]; rw [if_pos (by omega)]; exact ⟨rfl, hF.sc⟩) | (rw [if_pos (by omega)]; rw [if_neg (by omega)]; exact ⟨rfl, hF.sc⟩)⟩
    · skip
      refine k_iload_n dX12_limit_14 rfl ?_
      refine k_i2l dX12_limit_15 ⟨by omega, by omega⟩ ?_
      refine k_lconst dX12_limit_16 ?_
      refine k_lconst dX12_limit_17 ?_
      refine k_callSi [.long (lI _), .long (lI _), .long (lI _)] dX12_limit_18 s_X12_limit_65 rfl (m_xIn (by first | assumption | exact ⟨by omega, by omega⟩) (by first | assumption | exact ⟨by omega, by omega⟩) (by first | assumption | exact ⟨by omega, by omega⟩)) rfl (Nat.le_of_ble_eq_true rfl) ?_
      rintro _ _ ⟨rfl, rfl⟩
      refine k_ifb_ne 31 dX12_limit_21 (by decide) (fun h21 => ?_) (fun h21 => ?_)
      · skip
        refine k_aload_n dX12_limit_31 rfl ?_
        refine k_aload_n dX12_limit_32 rfl ?_
        refine k_callVi [] dX12_limit_33 s_X12_limit_152 rfl (NW.all hN hV) rfl (Nat.le_of_ble_eq_true rfl) sh_o86 ⟨_, rfl, rfl⟩ (Nat.le_of_ble_eq_true rfl) ?_
        rintro _ _ ⟨rfl, rfl⟩
        refine k_callVv [.int (iI _)] dX12_limit_36 s_X12_limit_155 rfl (m_xLayHand hV hN) rfl (Nat.le_of_ble_eq_true rfl) sh_o86 ⟨_, rfl, rfl⟩ (Nat.le_of_ble_eq_true rfl) ?_
        rintro g1 ⟨hF, hH⟩
        refine k_iload_n dX12_limit_39 rfl ?_
        refine k_if_ne 52 dX12_limit_40 (by decide) ⟨by omega, by omega⟩ (fun h40 => ?_) (fun h40 => ?_)
        · skip
          refine k_aload_n dX12_limit_52 rfl ?_
          refine k_iload_n dX12_limit_53 rfl ?_
          refine k_iload_n dX12_limit_54 rfl ?_
          refine k_iconst dX12_limit_55 ?_
          refine k_callVi [.int (iI _), .int (iI _), .int (iI _)] dX12_limit_56 s_X12_limit_143 rfl (m_xNearest (but := -1) (rk := -1) hV hset hH (by omega) (by omega) ⟨by decide, by decide⟩ (fun j hj _ => by have := q_rk_b (vok hV (t := t) (by omega)) (x := x) (by omega) j (by omega); omega)) rfl (Nat.le_of_ble_eq_true rfl) sh_o86 ⟨_, rfl, rfl⟩ (Nat.le_of_ble_eq_true rfl) ?_
          rintro _ _ ⟨rfl, rfl⟩
          exact k_iret dX12_limit_59 rfl ⟨_, rfl, by (try dsimp only); first | (rw [if_neg (by omega)]; exact ⟨rfl, rfl⟩) | (rw [if_pos (by omega)]; rw [if_pos (by omega)]; exact ⟨rfl, hF.sc⟩) | (rw [if_pos (by omega)]; rw [if_neg (by omega)]; exact ⟨rfl, hF.sc⟩)⟩
        · skip
          refine k_aload_n dX12_limit_43 rfl ?_
          refine k_iload_n dX12_limit_44 rfl ?_
          refine k_iload_n dX12_limit_45 rfl ?_
          refine k_callVi [.int (iI _), .int (iI _)] dX12_limit_46 s_X12_limit_159 rfl (m_xLimitAt hV hset hH (by omega) (by omega)) rfl (Nat.le_of_ble_eq_true rfl) sh_o86 ⟨_, rfl, rfl⟩ (Nat.le_of_ble_eq_true rfl) ?_
          rintro _ _ ⟨rfl, rfl⟩
          refine k_goto 59 dX12_limit_49 (by decide) ?_
          exact k_iret dX12_limit_59 rfl ⟨_, rfl, by (try dsimp only); first | (rw [if_neg (by omega)]; exact ⟨rfl, rfl⟩) | (rw [if_pos (by omega)]; rw [if_pos (by omega)]; exact ⟨rfl, hF.sc⟩) | (rw [if_pos (by omega)]; rw [if_neg (by omega)]; exact ⟨rfl, hF.sc⟩)⟩
      · skip
        refine k_aload_n dX12_limit_24 rfl ?_
        refine k_bipush dX12_limit_25 (by decide) ?_
        refine k_callVi [.int (iI _)] dX12_limit_27 s_X12_limit_75 rfl m_xBad rfl (Nat.le_of_ble_eq_true rfl) sh_o86 ⟨_, rfl, rfl⟩ (Nat.le_of_ble_eq_true rfl) ?_
        rintro _ _ ⟨rfl, rfl⟩
        exact k_iret dX12_limit_30 rfl ⟨_, rfl, by (try dsimp only); first | (rw [if_neg (by omega)]; exact ⟨rfl, rfl⟩) | (rw [if_pos (by omega)]; rw [if_pos (by omega)]; exact ⟨rfl, hF.sc⟩) | (rw [if_pos (by omega)]; rw [if_neg (by omega)]; exact ⟨rfl, hF.sc⟩)⟩
theorem lp_whereAt {V G : Mem} (hV : Vok V) (hH : HD V (vAll V) G) {a m : Int} (hm : m ≤ 60) : ∀ (d : Nat) (t x : Int), t + d = m → 0 ≤ t → 0 ≤ x ∧ x ≤ 47 → RP M_X12_whereAt 5 [some (.ref 86), some (.int (iI a)), some (.int (iI m)), some (.int (iI x)), some (.int (iI t))] [] G (vx (vWhere V d t x) G) := by
  have hset := vAll_lt hV
  intro d
  induction d with
  | zero =>
    intro t x htd ht0 hx
    refine k_iload dX12_whereAt_5 rfl ?_
    refine k_iload_n dX12_whereAt_7 rfl ?_
    refine k_icmp_ge 32 dX12_whereAt_8 (by decide) ⟨by omega, by omega⟩ ⟨by omega, by omega⟩ (fun h8 => ?_) (fun h8 => absurd h8 (by omega))
    refine k_iload_n dX12_whereAt_32 rfl ?_
    exact k_iret dX12_whereAt_33 rfl ⟨_, rfl, rfl, rfl⟩
  | succ d ih =>
    intro t x htd ht0 hx
    refine k_iload dX12_whereAt_5 rfl ?_
    refine k_iload_n dX12_whereAt_7 rfl ?_
    refine k_icmp_ge 32 dX12_whereAt_8 (by decide) ⟨by omega, by omega⟩ ⟨by omega, by omega⟩ (fun h8 => absurd h8 (by omega)) (fun h8 => ?_)
    refine k_bipush dX12_whereAt_11 (by decide) ?_
    refine k_iload_n dX12_whereAt_13 rfl ?_
    refine k_aload_n dX12_whereAt_14 rfl ?_
    refine k_iload_n dX12_whereAt_15 rfl ?_
    refine k_iload dX12_whereAt_16 rfl ?_
    refine k_callVi [.int (iI _), .int (iI _)] dX12_whereAt_18 s_X12_whereAt_159 rfl (m_xLimitAt hV hset hH (by omega) (by omega)) rfl (Nat.le_of_ble_eq_true rfl) sh_o86 ⟨_, rfl, rfl⟩ (Nat.le_of_ble_eq_true rfl) ?_
    rintro _ _ ⟨rfl, rfl⟩
    have bl := vLim_b hV (t := t) (by omega) (vAll V) x
    refine k_iadd dX12_whereAt_21 ?_
    refine k_callSi [.int (iI _), .int (iI _)] dX12_whereAt_22 s_X12_whereAt_119 rfl (m_xLeast (by first | assumption | exact ⟨by omega, by omega⟩) (by first | assumption | exact ⟨by omega, by omega⟩)) rfl (Nat.le_of_ble_eq_true rfl) ?_
    rintro _ _ ⟨rfl, rfl⟩
    refine k_istore_n (L' := [_, _, _, _, _]) dX12_whereAt_25 (Nat.le_of_ble_eq_true rfl) rfl ?_
    refine k_iinc (L' := [_, _, _, _, _]) dX12_whereAt_26 rfl (Nat.le_of_ble_eq_true rfl) rfl ?_
    refine k_goto 5 dX12_whereAt_29 (by decide) ?_
    exact ih _ _ (by omega) (by omega) (by omega)
theorem m_xWhereAt {V G : Mem} (hV : Vok V) (hH : HD V (vAll V) G) {a m : Int} (ha : 0 ≤ a ∧ a ≤ m) (hm : m ≤ 60) : MP M_X12_whereAt [.ref 86, .int (iI a), .int (iI m)] G (vx (vWhere V (m - a).toNat a 0) G) := by
  refine MP.of [some (.ref 86), some (.int (iI a)), some (.int (iI m)), none, none] (plainFor_of_name pn_X12) (Nat.le_of_ble_eq_true rfl) rfl ?_
  refine k_iconst dX12_whereAt_0 ?_
  refine k_istore_n (L' := [_, _, _, _, _]) dX12_whereAt_1 (Nat.le_of_ble_eq_true rfl) rfl ?_
  refine k_iload_n dX12_whereAt_2 rfl ?_
  refine k_istore (L' := [_, _, _, _, _]) dX12_whereAt_3 (Nat.le_of_ble_eq_true rfl) rfl ?_
  exact lp_whereAt hV hH hm _ _ _ (by omega) ha.1 (by omega)
theorem lp_thereFrom {V G : Mem} (hV : Vok V) {set : Nat} (hset : set < 64) (hH : HD V set G) {a : Int} : ∀ (d : Nat) (t x : Int), t + d = 60 → 0 ≤ t → 0 ≤ x ∧ x < 47 → RP M_X12_thereFrom 4 [some (.ref 86), some (.int (iI a)), some (.int (iI x)), some (.int (iI t))] [] G (vx (vEnd V set d t x) G) := by
  intro d
  induction d with
  | zero =>
    intro t x htd ht0 hx
    refine k_iload_n dX12_thereFrom_4 rfl ?_
    refine k_bipush dX12_thereFrom_5 (by decide) ?_
    refine k_icmp_ge 40 dX12_thereFrom_7 (by decide) ⟨by omega, by omega⟩ ⟨by decide, by decide⟩ (fun h7 => ?_) (fun h7 => absurd h7 (by omega))
    refine k_bipush dX12_thereFrom_40 (by decide) ?_
    exact k_iret dX12_thereFrom_42 rfl ⟨_, rfl, rfl, rfl⟩
  | succ d ih =>
    intro t x htd ht0 hx
    have e := vEnd.eq_2 V set t x d
    refine k_iload_n dX12_thereFrom_4 rfl ?_
    refine k_bipush dX12_thereFrom_5 (by decide) ?_
    refine k_icmp_ge 40 dX12_thereFrom_7 (by decide) ⟨by omega, by omega⟩ ⟨by decide, by decide⟩ (fun h7 => absurd h7 (by omega)) (fun h7 => ?_)
    refine k_bipush dX12_thereFrom_10 (by decide) ?_
    refine k_iload_n dX12_thereFrom_12 rfl ?_
    refine k_aload_n dX12_thereFrom_13 rfl ?_
    refine k_iload_n dX12_thereFrom_14 rfl ?_
    refine k_iload_n dX12_thereFrom_15 rfl ?_
    refine k_callVi [.int (iI _), .int (iI _)] dX12_thereFrom_16 s_X12_thereFrom_159 rfl (m_xLimitAt hV hset hH (by omega) (by omega)) rfl (Nat.le_of_ble_eq_true rfl) sh_o86 ⟨_, rfl, rfl⟩ (Nat.le_of_ble_eq_true rfl) ?_
    rintro _ _ ⟨rfl, rfl⟩
    have bl := vLim_b hV (t := t) (by omega) set x
    refine k_iadd dX12_thereFrom_19 ?_
    refine k_callSi [.int (iI _), .int (iI _)] dX12_thereFrom_20 s_X12_thereFrom_119 rfl (m_xLeast (by first | assumption | exact ⟨by omega, by omega⟩) (by first | assumption | exact ⟨by omega, by omega⟩)) rfl (Nat.le_of_ble_eq_true rfl) ?_
    rintro _ _ ⟨rfl, rfl⟩
    refine k_istore_n (L' := [_, _, _, _]) dX12_thereFrom_23 (Nat.le_of_ble_eq_true rfl) rfl ?_
    refine k_iload_n dX12_thereFrom_24 rfl ?_
    refine k_bipush dX12_thereFrom_25 (by decide) ?_
    refine k_icmp_ne 34 dX12_thereFrom_27 (by decide) ⟨by omega, by omega⟩ ⟨by decide, by decide⟩ (fun h27 => ?_) (fun h27 => ?_)
    · skip
      rw [if_neg (by omega)] at e
      rw [e, show min 47 (x + vLim V t set x) = x + vLim V t set x by omega]
      refine k_iinc (L' := [_, _, _, _]) dX12_thereFrom_34 rfl (Nat.le_of_ble_eq_true rfl) rfl ?_
      refine k_goto 4 dX12_thereFrom_37 (by decide) ?_
      exact ih _ _ (by omega) (by omega) (by omega)
    · skip
      refine k_iload_n dX12_thereFrom_30 rfl ?_
      refine k_iconst dX12_thereFrom_31 ?_
      refine k_iadd dX12_thereFrom_32 ?_
      exact k_iret dX12_thereFrom_33 rfl ⟨_, rfl, by rw [e, if_pos (by omega)], rfl⟩
theorem m_xThereFrom {V G : Mem} (hV : Vok V) {set : Nat} (hset : set < 64) (hH : HD V set G) {a : Int} (ha : 0 ≤ a ∧ a ≤ 60) : MP M_X12_thereFrom [.ref 86, .int (iI a)] G (vx (vThere V set a) G) := by
  refine MP.of [some (.ref 86), some (.int (iI a)), none, none] (plainFor_of_name pn_X12) (Nat.le_of_ble_eq_true rfl) rfl ?_
  refine k_iconst dX12_thereFrom_0 ?_
  refine k_istore_n (L' := [_, _, _, _]) dX12_thereFrom_1 (Nat.le_of_ble_eq_true rfl) rfl ?_
  refine k_iload_n dX12_thereFrom_2 rfl ?_
  refine k_istore_n (L' := [_, _, _, _]) dX12_thereFrom_3 (Nat.le_of_ble_eq_true rfl) rfl ?_
  exact lp_thereFrom hV hset hH _ _ _ (by omega) ha.1 (by omega)
theorem m_xWhere {V G : Mem} (hV : Vok V) (hN : NW V G) {a m : Int} (ha : R32 a) (hm : R32 m) : MP M_X12_where [.ref 86, .int (iI a), .int (iI m)] G (vi fun v g => if (0 ≤ a ∧ a ≤ 59) ∧ (0 ≤ m ∧ m ≤ 60) then (if m < a then (-1 = v ∧ SC G g) else (vWhere V (m - a).toNat a 0 = v ∧ SC G g)) else (-2 = v ∧ xB G = g)) := by
  have h0 := hN.1.1
  have hn := hV.2.2.1
  have hset := vAll_lt hV
  refine MP.of [some (.ref 86), some (.int (iI a)), some (.int (iI m))] (plainFor_of_name pn_X12) (Nat.le_of_ble_eq_true rfl) rfl ?_
  refine k_iload_n dX12_where_0 rfl ?_
  refine k_callSi [.int (iI _)] dX12_where_1 s_X12_where_149 rfl (m_xisMinute (by first | assumption | exact ⟨by omega, by omega⟩)) rfl (Nat.le_of_ble_eq_true rfl) ?_
  rintro _ _ ⟨rfl, rfl⟩
  refine k_ifb_eq 19 dX12_where_4 (by decide) (fun h4 => ?_) (fun h4 => ?_)
  · skip
    refine k_aload_n dX12_where_19 rfl ?_
    refine k_bipush dX12_where_20 (by decide) ?_
    refine k_callVi [.int (iI _)] dX12_where_22 s_X12_where_75 rfl m_xBad rfl (Nat.le_of_ble_eq_true rfl) sh_o86 ⟨_, rfl, rfl⟩ (Nat.le_of_ble_eq_true rfl) ?_
    rintro _ _ ⟨rfl, rfl⟩
    exact k_iret dX12_where_25 rfl ⟨_, rfl, by (try dsimp only); first | (rw [if_neg (by omega)]; exact ⟨rfl, rfl⟩) | (rw [if_pos (by omega)]; rw [if_pos (by omega)]; exact ⟨rfl, hF.sc⟩) | (rw [if_pos (by omega)]; rw [if_neg (by omega)]; exact ⟨rfl, hF.sc⟩)⟩
  · skip
    refine k_iload_n dX12_where_7 rfl ?_
    refine k_i2l dX12_where_8 ⟨by omega, by omega⟩ ?_
    refine k_lconst dX12_where_9 ?_
    refine k_ldc2 60 dX12_where_10 w_932 ?_
    refine k_callSi [.long (lI _), .long (lI _), .long (lI _)] dX12_where_13 s_X12_where_65 rfl (m_xIn (by first | assumption | exact ⟨by omega, by omega⟩) (by first | assumption | exact ⟨by omega, by omega⟩) (by first | assumption | exact ⟨by omega, by omega⟩)) rfl (Nat.le_of_ble_eq_true rfl) ?_
    rintro _ _ ⟨rfl, rfl⟩
    refine k_ifb_ne 26 dX12_where_16 (by decide) (fun h16 => ?_) (fun h16 => ?_)
    · skip
      refine k_aload_n dX12_where_26 rfl ?_
      refine k_aload_n dX12_where_27 rfl ?_
      refine k_callVi [] dX12_where_28 s_X12_where_152 rfl (NW.all hN hV) rfl (Nat.le_of_ble_eq_true rfl) sh_o86 ⟨_, rfl, rfl⟩ (Nat.le_of_ble_eq_true rfl) ?_
      rintro _ _ ⟨rfl, rfl⟩
      refine k_callVv [.int (iI _)] dX12_where_31 s_X12_where_155 rfl (m_xLayHand hV hN) rfl (Nat.le_of_ble_eq_true rfl) sh_o86 ⟨_, rfl, rfl⟩ (Nat.le_of_ble_eq_true rfl) ?_
      rintro g1 ⟨hF, hH⟩
      refine k_iload_n dX12_where_34 rfl ?_
      refine k_iload_n dX12_where_35 rfl ?_
      refine k_icmp_ge 43 dX12_where_36 (by decide) ⟨by omega, by omega⟩ ⟨by omega, by omega⟩ (fun h36 => ?_) (fun h36 => ?_)
      · skip
        refine k_aload_n dX12_where_43 rfl ?_
        refine k_iload_n dX12_where_44 rfl ?_
        refine k_iload_n dX12_where_45 rfl ?_
        refine k_callVi [.int (iI _), .int (iI _)] dX12_where_46 s_X12_where_162 rfl (m_xWhereAt hV hH (by omega) (by omega)) rfl (Nat.le_of_ble_eq_true rfl) sh_o86 ⟨_, rfl, rfl⟩ (Nat.le_of_ble_eq_true rfl) ?_
        rintro _ _ ⟨rfl, rfl⟩
        exact k_iret dX12_where_49 rfl ⟨_, rfl, by (try dsimp only); first | (rw [if_neg (by omega)]; exact ⟨rfl, rfl⟩) | (rw [if_pos (by omega)]; rw [if_pos (by omega)]; exact ⟨rfl, hF.sc⟩) | (rw [if_pos (by omega)]; rw [if_neg (by omega)]; exact ⟨rfl, hF.sc⟩)⟩
      · skip
        refine k_iconst dX12_where_39 ?_
        refine k_goto 49 dX12_where_40 (by decide) ?_
        exact k_iret dX12_where_49 rfl ⟨_, rfl, by (try dsimp only); first | (rw [if_neg (by omega)]; exact ⟨rfl, rfl⟩) | (rw [if_pos (by omega)]; rw [if_pos (by omega)]; exact ⟨rfl, hF.sc⟩) | (rw [if_pos (by omega)]; rw [if_neg (by omega)]; exact ⟨rfl, hF.sc⟩)⟩
    · skip
      refine k_aload_n dX12_where_19 rfl ?_
      refine k_bipush dX12_where_20 (by decide) ?_
      refine k_callVi [.int (iI _)] dX12_where_22 s_X12_where_75 rfl m_xBad rfl (Nat.le_of_ble_eq_true rfl) sh_o86 ⟨_, rfl, rfl⟩ (Nat.le_of_ble_eq_true rfl) ?_
      rintro _ _ ⟨rfl, rfl⟩
      exact k_iret dX12_where_25 rfl ⟨_, rfl, by (try dsimp only); first | (rw [if_neg (by omega)]; exact ⟨rfl, rfl⟩) | (rw [if_pos (by omega)]; rw [if_pos (by omega)]; exact ⟨rfl, hF.sc⟩) | (rw [if_pos (by omega)]; rw [if_neg (by omega)]; exact ⟨rfl, hF.sc⟩)⟩
theorem m_xThere {V G : Mem} (hV : Vok V) (hN : NW V G) {a : Int} (ha : R32 a) : MP M_X12_there [.ref 86, .int (iI a)] G (vi fun v g => if 0 ≤ a ∧ a ≤ 59 then ((if vThere V (vAll V) a = 61 then -1 else vThere V (vAll V) a) = v ∧ SC G g) else (-2 = v ∧ xB G = g)) := by
  have h0 := hN.1.1
  have hn := hV.2.2.1
  have hset := vAll_lt hV
  refine MP.of [some (.ref 86), some (.int (iI a))] (plainFor_of_name pn_X12) (Nat.le_of_ble_eq_true rfl) rfl ?_
  refine k_iload_n dX12_there_0 rfl ?_
  refine k_callSi [.int (iI _)] dX12_there_1 s_X12_there_149 rfl (m_xisMinute (by first | assumption | exact ⟨by omega, by omega⟩)) rfl (Nat.le_of_ble_eq_true rfl) ?_
  rintro _ _ ⟨rfl, rfl⟩
  refine k_ifb_ne 14 dX12_there_4 (by decide) (fun h4 => ?_) (fun h4 => ?_)
  · skip
    refine k_aload_n dX12_there_14 rfl ?_
    refine k_aload_n dX12_there_15 rfl ?_
    refine k_callVi [] dX12_there_16 s_X12_there_152 rfl (NW.all hN hV) rfl (Nat.le_of_ble_eq_true rfl) sh_o86 ⟨_, rfl, rfl⟩ (Nat.le_of_ble_eq_true rfl) ?_
    rintro _ _ ⟨rfl, rfl⟩
    refine k_callVv [.int (iI _)] dX12_there_19 s_X12_there_155 rfl (m_xLayHand hV hN) rfl (Nat.le_of_ble_eq_true rfl) sh_o86 ⟨_, rfl, rfl⟩ (Nat.le_of_ble_eq_true rfl) ?_
    rintro g1 ⟨hF, hH⟩
    refine k_aload_n dX12_there_22 rfl ?_
    refine k_iload_n dX12_there_23 rfl ?_
    refine k_callVi [.int (iI _)] dX12_there_24 s_X12_there_165 rfl (m_xThereFrom hV hset hH (by omega)) rfl (Nat.le_of_ble_eq_true rfl) sh_o86 ⟨_, rfl, rfl⟩ (Nat.le_of_ble_eq_true rfl) ?_
    rintro _ _ ⟨rfl, rfl⟩
    refine k_callSi [.int (iI _)] dX12_there_27 s_X12_there_168 rfl (m_xOrNone (vThere_b (by omega))) rfl (Nat.le_of_ble_eq_true rfl) ?_
    rintro _ _ ⟨rfl, rfl⟩
    exact k_iret dX12_there_30 rfl ⟨_, rfl, by (try dsimp only); first | (rw [if_neg (by omega)]; exact ⟨rfl, rfl⟩) | (rw [if_pos (by omega)]; exact ⟨rfl, hF.sc⟩)⟩
  · skip
    refine k_aload_n dX12_there_7 rfl ?_
    refine k_bipush dX12_there_8 (by decide) ?_
    refine k_callVi [.int (iI _)] dX12_there_10 s_X12_there_75 rfl m_xBad rfl (Nat.le_of_ble_eq_true rfl) sh_o86 ⟨_, rfl, rfl⟩ (Nat.le_of_ble_eq_true rfl) ?_
    rintro _ _ ⟨rfl, rfl⟩
    exact k_iret dX12_there_13 rfl ⟨_, rfl, by (try dsimp only); first | (rw [if_neg (by omega)]; exact ⟨rfl, rfl⟩) | (rw [if_pos (by omega)]; exact ⟨rfl, hF.sc⟩)⟩
theorem q_mx_b {f : Nat → Int} {b : Int} (hb : -1 ≤ b) : ∀ k, q_mx f b k = max b (q_mx f (-1) k)
  | 0 => by unfold q_mx; omega
  | k + 1 => by
    have := q_mx_b (f := f) hb k
    unfold q_mx
    omega
/-- how far the cells before x lead -/
def xW (V : Mem) (set : Nat) (t far : Int) (x : Nat) : Int := q_mx (fun c => (c : Int) + vLim V t set (c : Int)) (-1) (min x (far + 1).toNat)
theorem xW_0 {V : Mem} {set : Nat} {t far : Int} : xW V set t far 0 = -1 := by
  unfold xW
  rw [Nat.zero_min]
  rfl
theorem xW_s {V : Mem} {set : Nat} {t far : Int} {x : Nat} (h : (x : Int) ≤ far) : xW V set t far (x + 1) = max (xW V set t far x) ((x : Int) + vLim V t set (x : Int)) := by
  unfold xW
  rw [show min (x + 1) (far + 1).toNat = x + 1 by omega, show min x (far + 1).toNat = x by omega]
  rfl
theorem xW_n {V : Mem} {set : Nat} {t far : Int} {x : Nat} (h : far < (x : Int)) : xW V set t far (x + 1) = xW V set t far x := by
  unfold xW
  rw [show min (x + 1) (far + 1).toNat = (far + 1).toNat by omega, show min x (far + 1).toNat = (far + 1).toNat by omega]
theorem xW_lo {V : Mem} (h : Vok V) {set : Nat} {t far : Int} (ht : 0 ≤ t ∧ t ≤ 60) : ∀ x : Nat, (x : Int) ≤ far + 1 → (x : Int) - 1 ≤ xW V set t far x
  | 0, _ => by rw [xW_0]; omega
  | x + 1, hx => by
    have := vLim_b h ht set (x : Int)
    rw [xW_s (by omega)]
    omega
theorem xW_e {V : Mem} (h : Vok V) {set : Nat} {t far : Int} (ht : 0 ≤ t ∧ t ≤ 60) (hf : 0 ≤ far ∧ far < 47) : xW V set t far 48 = vFar V set t far (far + 1).toNat := by
  have e1 : xW V set t far 48 = q_mx (fun c => (c : Int) + vLim V t set (c : Int)) (-1) (far + 1).toNat := by
    unfold xW
    rw [show min 48 (far + 1).toNat = (far + 1).toNat by omega]
  have e2 : xW V set t far (far + 1).toNat = q_mx (fun c => (c : Int) + vLim V t set (c : Int)) (-1) (far + 1).toNat := by
    unfold xW
    rw [show min (far + 1).toNat (far + 1).toNat = (far + 1).toNat by omega]
  have k := xW_lo h (set := set) (far := far) ht (far + 1).toNat (by omega)
  unfold vFar
  rw [q_mx_b (by omega), ← e1]
  rw [e2, ← e1] at k
  omega
/-- only the two rows of cells have changed -/
def GF (G g : Mem) : Prop := ∀ a b, a ≠ 93 → a ≠ 94 → g a b = G a b
theorem GF.rf {G : Mem} : GF G G := fun _ _ _ _ => rfl
theorem GF.tr {G g k : Mem} (h1 : GF G g) (h2 : GF g k) : GF G k := fun a b x y => (h2 a b x y).trans (h1 a b x y)
theorem GF.sc {G g : Mem} (h : GF G g) : SC G g := fun a b x y => h a b (by omega) (by omega)
theorem GF.hd {V : Mem} {set : Nat} {G g : Mem} (h : HD V set G) (k : GF G g) : HD V set g := h.fr (fun a b x => k a b (by omega) (by omega))
theorem bI_01 {p : Prop} [Decidable p] : bI p = 0 ∨ bI p = 1 := by unfold bI; split <;> omega
theorem bI_c {p q : Prop} [Decidable p] [Decidable q] (h : p ↔ q) : bI p = bI q := by
  unfold bI
  by_cases e : p
  · rw [if_pos e, if_pos (h.mp e)]
  · rw [if_neg e, if_neg (fun z => e (h.mpr z))]
theorem lp_goOn3 {G : Mem} {w t : Int} {j3 j4 : Option Value} : ∀ i : Nat, i ≤ 48 → ∀ g : Mem, GF G g → (∀ x : Nat, x < 48 → g 94 x = bI ((x : Int) ≤ w)) → (∀ x : Nat, x < i → g 93 x = bI ((x : Int) ≤ w)) → RP M_X12_goOn 87 [some (.ref 86), some (.int (iI t)), some (.int (iI (i : Int))), j3, j4] [] g (vv fun k => GF G k ∧ ∀ x : Nat, x < 48 → k 93 x = bI ((x : Int) ≤ w)) := by
  refine cnt (fun g hg h4 h3 => ?_) (fun i hi ih g hg h4 h3 => ?_)
  · skip
    refine k_iload_n dX12_goOn_87 rfl ?_
    refine k_bipush dX12_goOn_88 (by decide) ?_
    refine k_icmp_gt 111 dX12_goOn_90 (by decide) ⟨by omega, by omega⟩ ⟨by decide, by decide⟩ (fun h90 => ?_) (fun h90 => absurd h90 (by omega))
    exact k_ret dX12_goOn_111 rfl ⟨rfl, hg, h3⟩
  · have z := h4 i hi
    refine k_iload_n dX12_goOn_87 rfl ?_
    refine k_bipush dX12_goOn_88 (by decide) ?_
    refine k_icmp_gt 111 dX12_goOn_90 (by decide) ⟨by omega, by omega⟩ ⟨by decide, by decide⟩ (fun h90 => absurd h90 (by omega)) (fun h90 => ?_)
    refine k_aload_n dX12_goOn_93 rfl ?_
    refine k_getR dX12_goOn_94 f_X12_33 (Nat.le_of_ble_eq_true rfl) sh_o86 (fun _ => rfl) ?_
    refine k_iload_n dX12_goOn_97 rfl ?_
    refine k_aload_n dX12_goOn_98 rfl ?_
    refine k_getR dX12_goOn_99 f_X12_36 (Nat.le_of_ble_eq_true rfl) sh_o86 (fun _ => rfl) ?_
    refine k_iload_n dX12_goOn_102 rfl ?_
    refine k_zald i dX12_goOn_103 (Nat.le_of_ble_eq_true rfl) sh_a94 (by decide) (by omega) (by omega) ?_
    refine k_zast i dX12_goOn_104 (Nat.le_of_ble_eq_true rfl) sh_a93 (by decide) (by omega) (by omega) (by rw [z]; exact bI_01) ?_
    refine k_iinc (L' := [_, _, _, _, _]) dX12_goOn_105 rfl (Nat.le_of_ble_eq_true rfl) rfl ?_
    refine k_goto 87 dX12_goOn_108 (by decide) ?_
    refine ih _ (fun a b x y => by rw [ug_nc x]; exact hg a b x y) (fun x hx => by rw [ug_nc (by decide)]; exact h4 x hx) (fun x hx => ?_)
    by_cases e : x = i
    · subst e; rw [ug_at]; exact z
    · rw [ug_np e]; exact h3 x (by omega)
theorem lp_goOn2i {G g0 : Mem} {w t u : Int} {x : Nat} (hx : x < 48) (hu : u ≤ 47) {Post : Option Value → Mem → Prop} : ∀ (d : Nat) (y : Nat), (y : Int) + d = u + 1 → x ≤ y → ∀ g : Mem, GF G g → g 93 = g0 93 → (∀ z : Nat, z < 48 → g 94 z = bI ((z : Int) ≤ w ∨ (x ≤ z ∧ z < y))) → (∀ k : Mem, ∀ j4, GF G k → k 93 = g0 93 → (∀ z : Nat, z < 48 → k 94 z = bI ((z : Int) ≤ w ∨ ((x : Int) ≤ z ∧ (z : Int) ≤ u))) → RP M_X12_goOn 79 [some (.ref 86), some (.int (iI t)), some (.int (iI (x : Int))), some (.int (iI u)), j4] [] k Post) → RP M_X12_goOn 59 [some (.ref 86), some (.int (iI t)), some (.int (iI (x : Int))), some (.int (iI u)), some (.int (iI (y : Int)))] [] g Post := by
  intro d
  induction d with
  | zero =>
    intro y hd hy g hg h3 h4 hk
    refine k_iload dX12_goOn_59 rfl ?_
    refine k_iload_n dX12_goOn_61 rfl ?_
    refine k_icmp_gt 79 dX12_goOn_62 (by decide) ⟨by omega, by omega⟩ ⟨by omega, by omega⟩ (fun h62 => ?_) (fun h62 => absurd h62 (by omega))
    exact hk _ _ hg h3 (fun z hz => by rw [h4 z hz]; exact bI_c (by omega))
  | succ d ih =>
    intro y hd hy g hg h3 h4 hk
    refine k_iload dX12_goOn_59 rfl ?_
    refine k_iload_n dX12_goOn_61 rfl ?_
    refine k_icmp_gt 79 dX12_goOn_62 (by decide) ⟨by omega, by omega⟩ ⟨by omega, by omega⟩ (fun h62 => absurd h62 (by omega)) (fun h62 => ?_)
    refine k_aload_n dX12_goOn_65 rfl ?_
    refine k_getR dX12_goOn_66 f_X12_36 (Nat.le_of_ble_eq_true rfl) sh_o86 (fun _ => rfl) ?_
    refine k_iload dX12_goOn_69 rfl ?_
    refine k_iconst dX12_goOn_71 ?_
    refine k_zast y dX12_goOn_72 (Nat.le_of_ble_eq_true rfl) sh_a94 (by decide) (by omega) (by omega) (Or.inr rfl) ?_
    refine k_iinc (L' := [_, _, _, _, _]) dX12_goOn_73 rfl (Nat.le_of_ble_eq_true rfl) rfl ?_
    refine k_goto 59 dX12_goOn_76 (by decide) ?_
    refine ih (y + 1) (by omega) (by omega) _ (fun a b p q => by rw [ug_nc q]; exact hg a b p q) (by funext b; rw [ug_nc (by decide)]; exact congrFun h3 b) (fun z hz => ?_) hk
    by_cases e : z = y
    · subst e; rw [ug_at]; exact (bI_t (by omega)).symm
    · rw [ug_np e, h4 z hz]; exact bI_c (by omega)
theorem lp_goOn2 {V : Mem} (hV : Vok V) {set : Nat} (hset : set < 64) {t far : Int} (ht : 0 ≤ t ∧ t < 60) (hf : 0 ≤ far ∧ far < 47) {G : Mem} (hH : HD V set G) : ∀ x : Nat, x ≤ 48 → ∀ g : Mem, GF G g → (∀ x : Nat, x < 48 → g 93 x = bI ((x : Int) ≤ far)) → (∀ y : Nat, y < 48 → g 94 y = bI ((y : Int) ≤ xW V set t far x)) → ∀ j3 j4 : Option Value, RP M_X12_goOn 23 [some (.ref 86), some (.int (iI t)), some (.int (iI (x : Int))), j3, j4] [] g (vv fun k => GF G k ∧ ∀ x : Nat, x < 48 → k 93 x = bI ((x : Int) ≤ vFar V set t far (far + 1).toNat)) := by
  refine cnt (fun g hg h3 h4 j3 j4 => ?_) (fun x hx ih g hg h3 h4 j3 j4 => ?_)
  · skip
    refine k_iload_n dX12_goOn_23 rfl ?_
    refine k_bipush dX12_goOn_24 (by decide) ?_
    refine k_icmp_gt 85 dX12_goOn_26 (by decide) ⟨by omega, by omega⟩ ⟨by decide, by decide⟩ (fun h26 => ?_) (fun h26 => absurd h26 (by omega))
    refine k_iconst dX12_goOn_85 ?_
    refine k_istore_n (L' := [_, _, _, _, _]) dX12_goOn_86 (Nat.le_of_ble_eq_true rfl) rfl ?_
    rw [xW_e hV (by omega) hf] at h4
    exact lp_goOn3 0 (by omega) _ hg h4 (fun x hx => absurd hx (by omega))
  · have hH1 := GF.hd hH hg
    have b3 := h3 x hx
    have bl := vLim_b hV (t := t) (by omega) set (x : Int)
    rcases (show (x : Int) ≤ far ∨ far < x by omega) with hc | hc
    · rw [bI_t hc] at b3
      have e := xW_s (V := V) (set := set) (t := t) hc
      have lo := xW_lo hV (set := set) (t := t) (far := far) (by omega) x (by omega)
      refine k_iload_n dX12_goOn_23 rfl ?_
      refine k_bipush dX12_goOn_24 (by decide) ?_
      refine k_icmp_gt 85 dX12_goOn_26 (by decide) ⟨by omega, by omega⟩ ⟨by decide, by decide⟩ (fun h26 => absurd h26 (by omega)) (fun h26 => ?_)
      refine k_aload_n dX12_goOn_29 rfl ?_
      refine k_getR dX12_goOn_30 f_X12_33 (Nat.le_of_ble_eq_true rfl) sh_o86 (fun _ => rfl) ?_
      refine k_iload_n dX12_goOn_33 rfl ?_
      refine k_zald x dX12_goOn_34 (Nat.le_of_ble_eq_true rfl) sh_a93 (by decide) (by omega) (by omega) ?_
      rw [b3]
      refine k_if_eq 54 dX12_goOn_35 (by decide) ⟨by omega, by omega⟩ (fun h35 => absurd h35 (by omega)) (fun h35 => ?_)
      refine k_bipush dX12_goOn_38 (by decide) ?_
      refine k_iload_n dX12_goOn_40 rfl ?_
      refine k_aload_n dX12_goOn_41 rfl ?_
      refine k_iload_n dX12_goOn_42 rfl ?_
      refine k_iload_n dX12_goOn_43 rfl ?_
      refine k_callVi [.int (iI _), .int (iI _)] dX12_goOn_44 s_X12_goOn_159 rfl (m_xLimitAt hV hset hH1 (by omega) (by omega)) rfl (Nat.le_of_ble_eq_true rfl) sh_o86 ⟨_, rfl, rfl⟩ (Nat.le_of_ble_eq_true rfl) ?_
      rintro _ _ ⟨rfl, rfl⟩
      refine k_iadd dX12_goOn_47 ?_
      refine k_callSi [.int (iI _), .int (iI _)] dX12_goOn_48 s_X12_goOn_119 rfl (m_xLeast (by first | assumption | exact ⟨by omega, by omega⟩) (by first | assumption | exact ⟨by omega, by omega⟩)) rfl (Nat.le_of_ble_eq_true rfl) ?_
      rintro _ _ ⟨rfl, rfl⟩
      refine k_goto 55 dX12_goOn_51 (by decide) ?_
      refine k_istore_n (L' := [_, _, _, _, _]) dX12_goOn_55 (Nat.le_of_ble_eq_true rfl) rfl ?_
      refine k_iload_n dX12_goOn_56 rfl ?_
      refine k_istore (L' := [_, _, _, _, _]) dX12_goOn_57 (Nat.le_of_ble_eq_true rfl) rfl ?_
      refine lp_goOn2i (w := xW V set t far x) (x := x) (by omega) (by omega) (min 47 ((x : Int) + vLim V t set (x : Int)) + 1 - x).toNat x (by omega) (Nat.le_refl _) g (fun a b p q => hg a b p q) rfl (fun z hz => by rw [h4 z hz]; exact bI_c (by omega)) (fun k j4 hk h93 hk4 => ?_)
      refine k_iinc (L' := [_, _, _, _, _]) dX12_goOn_79 rfl (Nat.le_of_ble_eq_true rfl) rfl ?_
      refine k_goto 23 dX12_goOn_82 (by decide) ?_
      exact ih k hk (fun z hz => by rw [h93]; exact h3 z hz) (fun z hz => by rw [hk4 z hz, e]; exact bI_c (by omega)) _ _
    · rw [bI_f (by omega)] at b3
      have e := xW_n (V := V) (set := set) (t := t) hc
      refine k_iload_n dX12_goOn_23 rfl ?_
      refine k_bipush dX12_goOn_24 (by decide) ?_
      refine k_icmp_gt 85 dX12_goOn_26 (by decide) ⟨by omega, by omega⟩ ⟨by decide, by decide⟩ (fun h26 => absurd h26 (by omega)) (fun h26 => ?_)
      refine k_aload_n dX12_goOn_29 rfl ?_
      refine k_getR dX12_goOn_30 f_X12_33 (Nat.le_of_ble_eq_true rfl) sh_o86 (fun _ => rfl) ?_
      refine k_iload_n dX12_goOn_33 rfl ?_
      refine k_zald x dX12_goOn_34 (Nat.le_of_ble_eq_true rfl) sh_a93 (by decide) (by omega) (by omega) ?_
      rw [b3]
      refine k_if_eq 54 dX12_goOn_35 (by decide) ⟨by omega, by omega⟩ (fun h35 => ?_) (fun h35 => absurd h35 (by omega))
      refine k_iconst dX12_goOn_54 ?_
      refine k_istore_n (L' := [_, _, _, _, _]) dX12_goOn_55 (Nat.le_of_ble_eq_true rfl) rfl ?_
      refine k_iload_n dX12_goOn_56 rfl ?_
      refine k_istore (L' := [_, _, _, _, _]) dX12_goOn_57 (Nat.le_of_ble_eq_true rfl) rfl ?_
      refine k_iload dX12_goOn_59 rfl ?_
      refine k_iload_n dX12_goOn_61 rfl ?_
      refine k_icmp_gt 79 dX12_goOn_62 (by decide) ⟨by omega, by omega⟩ ⟨by decide, by decide⟩ (fun h62 => ?_) (fun h62 => absurd h62 (by omega))
      refine k_iinc (L' := [_, _, _, _, _]) dX12_goOn_79 rfl (Nat.le_of_ble_eq_true rfl) rfl ?_
      refine k_goto 23 dX12_goOn_82 (by decide) ?_
      exact ih g hg h3 (fun z hz => by rw [e]; exact h4 z hz) _ _
theorem lp_goOn1 {V : Mem} (hV : Vok V) {set : Nat} (hset : set < 64) {t far : Int} (ht : 0 ≤ t ∧ t < 60) (hf : 0 ≤ far ∧ far < 47) {G : Mem} (hH : HD V set G) : ∀ x : Nat, x ≤ 48 → ∀ g : Mem, GF G g → (∀ x : Nat, x < 48 → g 93 x = bI ((x : Int) ≤ far)) → (∀ y : Nat, y < x → g 94 y = 0) → ∀ j3 j4 : Option Value, RP M_X12_goOn 2 [some (.ref 86), some (.int (iI t)), some (.int (iI (x : Int))), j3, j4] [] g (vv fun k => GF G k ∧ ∀ x : Nat, x < 48 → k 93 x = bI ((x : Int) ≤ vFar V set t far (far + 1).toNat)) := by
  refine cnt (fun g hg h3 h4 j3 j4 => ?_) (fun x hx ih g hg h3 h4 j3 j4 => ?_)
  · skip
    refine k_iload_n dX12_goOn_2 rfl ?_
    refine k_bipush dX12_goOn_3 (by decide) ?_
    refine k_icmp_gt 21 dX12_goOn_5 (by decide) ⟨by omega, by omega⟩ ⟨by decide, by decide⟩ (fun h5 => ?_) (fun h5 => absurd h5 (by omega))
    refine k_iconst dX12_goOn_21 ?_
    refine k_istore_n (L' := [_, _, _, _, _]) dX12_goOn_22 (Nat.le_of_ble_eq_true rfl) rfl ?_
    exact lp_goOn2 hV hset ht hf hH 0 (by omega) g hg h3 (fun y hy => by rw [xW_0, h4 y hy]; exact (bI_f (by omega)).symm) _ _
  · skip
    refine k_iload_n dX12_goOn_2 rfl ?_
    refine k_bipush dX12_goOn_3 (by decide) ?_
    refine k_icmp_gt 21 dX12_goOn_5 (by decide) ⟨by omega, by omega⟩ ⟨by decide, by decide⟩ (fun h5 => absurd h5 (by omega)) (fun h5 => ?_)
    refine k_aload_n dX12_goOn_8 rfl ?_
    refine k_getR dX12_goOn_9 f_X12_36 (Nat.le_of_ble_eq_true rfl) sh_o86 (fun _ => rfl) ?_
    refine k_iload_n dX12_goOn_12 rfl ?_
    refine k_iconst dX12_goOn_13 ?_
    refine k_zast x dX12_goOn_14 (Nat.le_of_ble_eq_true rfl) sh_a94 (by decide) (by omega) (by omega) (Or.inl rfl) ?_
    refine k_iinc (L' := [_, _, _, _, _]) dX12_goOn_15 rfl (Nat.le_of_ble_eq_true rfl) rfl ?_
    refine k_goto 2 dX12_goOn_18 (by decide) ?_
    refine ih _ (fun a b p q => by rw [ug_nc q]; exact hg a b p q) (fun y hy => by rw [ug_nc (by decide)]; exact h3 y hy) (fun y hy => ?_) _ _
    by_cases e : y = x
    · subst e; rw [ug_at]
    · rw [ug_np e]; exact h4 y (by omega)
theorem m_xGoOn {V : Mem} (hV : Vok V) {set : Nat} (hset : set < 64) {t far : Int} (ht : 0 ≤ t ∧ t < 60) (hf : 0 ≤ far ∧ far < 47) {G : Mem} (hH : HD V set G) (h3 : ∀ x : Nat, x < 48 → G 93 x = bI ((x : Int) ≤ far)) : MP M_X12_goOn [.ref 86, .int (iI t)] G (vv fun k => GF G k ∧ ∀ x : Nat, x < 48 → k 93 x = bI ((x : Int) ≤ vFar V set t far (far + 1).toNat)) := by
  refine MP.of [some (.ref 86), some (.int (iI t)), none, none, none] (plainFor_of_name pn_X12) (Nat.le_of_ble_eq_true rfl) rfl ?_
  refine k_iconst dX12_goOn_0 ?_
  refine k_istore_n (L' := [_, _, _, _, _]) dX12_goOn_1 (Nat.le_of_ble_eq_true rfl) rfl ?_
  exact lp_goOn1 hV hset ht hf hH 0 (by omega) G GF.rf h3 (fun y hy => absurd hy (by omega)) _ _
theorem lp_soonestFrom2 {V G : Mem} (hV : Vok V) {set : Nat} (hset : set < 64) (hH : HD V set G) {a : Int} : ∀ (d : Nat) (t far : Int) (g : Mem), t + d = 60 → 0 ≤ t → 0 ≤ far ∧ far < 47 → GF G g → (∀ x : Nat, x < 48 → g 93 x = bI ((x : Int) ≤ far)) → RP M_X12_soonestFrom 31 [some (.ref 86), some (.int (iI a)), some (.int (iI t))] [] g (vi fun v k => vSoon V set d t far = v ∧ GF G k) := by
  intro d
  induction d with
  | zero =>
    intro t far g htd ht0 hf hg h3
    refine k_iload_n dX12_soonestFrom_31 rfl ?_
    refine k_bipush dX12_soonestFrom_32 (by decide) ?_
    refine k_icmp_ge 62 dX12_soonestFrom_34 (by decide) ⟨by omega, by omega⟩ ⟨by decide, by decide⟩ (fun h34 => ?_) (fun h34 => absurd h34 (by omega))
    refine k_bipush dX12_soonestFrom_62 (by decide) ?_
    exact k_iret dX12_soonestFrom_64 rfl ⟨_, rfl, rfl, hg⟩
  | succ d ih =>
    intro t far g htd ht0 hf hg h3
    have e := vSoon.eq_2 V set t far d
    have bf := vFar_b hV (set := set) (t := t) (far := far) (by omega) (by omega) (far + 1).toNat (by omega)
    refine k_iload_n dX12_soonestFrom_31 rfl ?_
    refine k_bipush dX12_soonestFrom_32 (by decide) ?_
    refine k_icmp_ge 62 dX12_soonestFrom_34 (by decide) ⟨by omega, by omega⟩ ⟨by decide, by decide⟩ (fun h34 => absurd h34 (by omega)) (fun h34 => ?_)
    refine k_aload_n dX12_soonestFrom_37 rfl ?_
    refine k_iload_n dX12_soonestFrom_38 rfl ?_
    refine k_callVv [.int (iI _)] dX12_soonestFrom_39 s_X12_soonestFrom_171 rfl (m_xGoOn hV hset (by omega) hf (GF.hd hH hg) h3) rfl (Nat.le_of_ble_eq_true rfl) sh_o86 ⟨_, rfl, rfl⟩ (Nat.le_of_ble_eq_true rfl) ?_
    rintro k ⟨hk, h4⟩
    have z := h4 47 (by decide)
    refine k_aload_n dX12_soonestFrom_42 rfl ?_
    refine k_getR dX12_soonestFrom_43 f_X12_33 (Nat.le_of_ble_eq_true rfl) sh_o86 (fun _ => rfl) ?_
    refine k_bipush dX12_soonestFrom_46 (by decide) ?_
    refine k_zald (47) dX12_soonestFrom_48 (Nat.le_of_ble_eq_true rfl) sh_a93 (by decide) (by omega) (by omega) ?_
    rw [z]
    refine k_ifb_eq 56 dX12_soonestFrom_49 (by decide) (fun h49 => ?_) (fun h49 => ?_)
    · skip
      refine k_iinc (L' := [_, _, _]) dX12_soonestFrom_56 rfl (Nat.le_of_ble_eq_true rfl) rfl ?_
      refine k_goto 31 dX12_soonestFrom_59 (by decide) ?_
      rw [if_neg (by omega)] at e
      rw [e]
      exact ih _ _ _ (by omega) (by omega) (by omega) (hg.tr hk) h4
    · skip
      refine k_iload_n dX12_soonestFrom_52 rfl ?_
      refine k_iconst dX12_soonestFrom_53 ?_
      refine k_iadd dX12_soonestFrom_54 ?_
      exact k_iret dX12_soonestFrom_55 rfl ⟨_, rfl, by rw [e, if_pos (by omega)], hg.tr hk⟩
theorem lp_soonestFrom1 {V G : Mem} (hV : Vok V) {set : Nat} (hset : set < 64) (hH : HD V set G) {a : Int} (ha : 0 ≤ a ∧ a ≤ 60) : ∀ x : Nat, x ≤ 48 → ∀ g : Mem, GF G g → (∀ y : Nat, y < x → g 93 y = bI ((y : Int) ≤ 0)) → RP M_X12_soonestFrom 2 [some (.ref 86), some (.int (iI a)), some (.int (iI (x : Int)))] [] g (vi fun v g => vSoonest V set a = v ∧ GF G g) := by
  refine cnt (fun g hg h3 => ?_) (fun x hx ih g hg h3 => ?_)
  · skip
    refine k_iload_n dX12_soonestFrom_2 rfl ?_
    refine k_bipush dX12_soonestFrom_3 (by decide) ?_
    refine k_icmp_gt 29 dX12_soonestFrom_5 (by decide) ⟨by omega, by omega⟩ ⟨by decide, by decide⟩ (fun h5 => ?_) (fun h5 => absurd h5 (by omega))
    refine k_iload_n dX12_soonestFrom_29 rfl ?_
    refine k_istore_n (L' := [_, _, _]) dX12_soonestFrom_30 (Nat.le_of_ble_eq_true rfl) rfl ?_
    refine (lp_soonestFrom2 hV hset (GF.hd hH hg) (60 - a).toNat a 0 g (by omega) ha.1 (by omega) GF.rf h3).mono ?_
    rintro o k ⟨v, h1, h2, h5⟩
    exact ⟨v, h1, h2, hg.tr h5⟩
  · skip
    refine k_iload_n dX12_soonestFrom_2 rfl ?_
    refine k_bipush dX12_soonestFrom_3 (by decide) ?_
    refine k_icmp_gt 29 dX12_soonestFrom_5 (by decide) ⟨by omega, by omega⟩ ⟨by decide, by decide⟩ (fun h5 => absurd h5 (by omega)) (fun h5 => ?_)
    refine k_aload_n dX12_soonestFrom_8 rfl ?_
    refine k_getR dX12_soonestFrom_9 f_X12_33 (Nat.le_of_ble_eq_true rfl) sh_o86 (fun _ => rfl) ?_
    refine k_iload_n dX12_soonestFrom_12 rfl ?_
    refine k_iload_n dX12_soonestFrom_13 rfl ?_
    refine k_if_ne 21 dX12_soonestFrom_14 (by decide) ⟨by omega, by omega⟩ (fun h14 => ?_) (fun h14 => ?_)
    · skip
      refine k_iconst dX12_soonestFrom_21 ?_
      refine k_zast x dX12_soonestFrom_22 (Nat.le_of_ble_eq_true rfl) sh_a93 (by decide) (by omega) (by omega) (by first | exact Or.inl rfl | exact Or.inr rfl) ?_
      refine k_iinc (L' := [_, _, _]) dX12_soonestFrom_23 rfl (Nat.le_of_ble_eq_true rfl) rfl ?_
      refine k_goto 2 dX12_soonestFrom_26 (by decide) ?_
      refine ih _ (fun a b p q => by rw [ug_nc p]; exact hg a b p q) (fun y hy => ?_)
      by_cases e : y = x
      · subst e; rw [ug_at]; first | exact (bI_t (by omega)).symm | exact (bI_f (by omega)).symm
      · rw [ug_np e]; exact h3 y (by omega)
    · skip
      refine k_iconst dX12_soonestFrom_17 ?_
      refine k_goto 22 dX12_soonestFrom_18 (by decide) ?_
      refine k_zast x dX12_soonestFrom_22 (Nat.le_of_ble_eq_true rfl) sh_a93 (by decide) (by omega) (by omega) (by first | exact Or.inl rfl | exact Or.inr rfl) ?_
      refine k_iinc (L' := [_, _, _]) dX12_soonestFrom_23 rfl (Nat.le_of_ble_eq_true rfl) rfl ?_
      refine k_goto 2 dX12_soonestFrom_26 (by decide) ?_
      refine ih _ (fun a b p q => by rw [ug_nc p]; exact hg a b p q) (fun y hy => ?_)
      by_cases e : y = x
      · subst e; rw [ug_at]; first | exact (bI_t (by omega)).symm | exact (bI_f (by omega)).symm
      · rw [ug_np e]; exact h3 y (by omega)
theorem m_xSoonestFrom {V G : Mem} (hV : Vok V) {set : Nat} (hset : set < 64) (hH : HD V set G) {a : Int} (ha : 0 ≤ a ∧ a ≤ 60) : MP M_X12_soonestFrom [.ref 86, .int (iI a)] G (vi fun v g => vSoonest V set a = v ∧ GF G g) := by
  refine MP.of [some (.ref 86), some (.int (iI a)), none] (plainFor_of_name pn_X12) (Nat.le_of_ble_eq_true rfl) rfl ?_
  refine k_iconst dX12_soonestFrom_0 ?_
  refine k_istore_n (L' := [_, _, _]) dX12_soonestFrom_1 (Nat.le_of_ble_eq_true rfl) rfl ?_
  exact lp_soonestFrom1 hV hset hH ha 0 (by omega) G GF.rf (fun y hy => absurd hy (by omega))
theorem m_xSoonest {V G : Mem} (hV : Vok V) (hN : NW V G) {a : Int} (ha : R32 a) : MP M_X12_soonest [.ref 86, .int (iI a)] G (vi fun v g => if 0 ≤ a ∧ a ≤ 59 then ((if vSoonest V (vAll V) a = 61 then -1 else vSoonest V (vAll V) a) = v ∧ SC G g) else (-2 = v ∧ xB G = g)) := by
  have h0 := hN.1.1
  have hn := hV.2.2.1
  have hset := vAll_lt hV
  refine MP.of [some (.ref 86), some (.int (iI a))] (plainFor_of_name pn_X12) (Nat.le_of_ble_eq_true rfl) rfl ?_
  refine k_iload_n dX12_soonest_0 rfl ?_
  refine k_callSi [.int (iI _)] dX12_soonest_1 s_X12_soonest_149 rfl (m_xisMinute (by first | assumption | exact ⟨by omega, by omega⟩)) rfl (Nat.le_of_ble_eq_true rfl) ?_
  rintro _ _ ⟨rfl, rfl⟩
  refine k_ifb_ne 14 dX12_soonest_4 (by decide) (fun h4 => ?_) (fun h4 => ?_)
  · skip
    refine k_aload_n dX12_soonest_14 rfl ?_
    refine k_aload_n dX12_soonest_15 rfl ?_
    refine k_callVi [] dX12_soonest_16 s_X12_soonest_152 rfl (NW.all hN hV) rfl (Nat.le_of_ble_eq_true rfl) sh_o86 ⟨_, rfl, rfl⟩ (Nat.le_of_ble_eq_true rfl) ?_
    rintro _ _ ⟨rfl, rfl⟩
    refine k_callVv [.int (iI _)] dX12_soonest_19 s_X12_soonest_155 rfl (m_xLayHand hV hN) rfl (Nat.le_of_ble_eq_true rfl) sh_o86 ⟨_, rfl, rfl⟩ (Nat.le_of_ble_eq_true rfl) ?_
    rintro g1 ⟨hF, hH⟩
    refine k_aload_n dX12_soonest_22 rfl ?_
    refine k_iload_n dX12_soonest_23 rfl ?_
    refine k_callVi [.int (iI _)] dX12_soonest_24 s_X12_soonest_174 rfl (m_xSoonestFrom hV hset hH (by omega)) rfl (Nat.le_of_ble_eq_true rfl) sh_o86 ⟨_, rfl, rfl⟩ (Nat.le_of_ble_eq_true rfl) ?_
    rintro _ g2 ⟨rfl, hg⟩
    refine k_callSi [.int (iI _)] dX12_soonest_27 s_X12_soonest_168 rfl (m_xOrNone (vSoonest_b (by omega))) rfl (Nat.le_of_ble_eq_true rfl) ?_
    rintro _ _ ⟨rfl, rfl⟩
    exact k_iret dX12_soonest_30 rfl ⟨_, rfl, by (try dsimp only); first | (rw [if_neg (by omega)]; exact ⟨rfl, rfl⟩) | (rw [if_pos (by omega)]; exact ⟨rfl, hF.sc.tr hg.sc⟩)⟩
  · skip
    refine k_aload_n dX12_soonest_7 rfl ?_
    refine k_bipush dX12_soonest_8 (by decide) ?_
    refine k_callVi [.int (iI _)] dX12_soonest_10 s_X12_soonest_75 rfl m_xBad rfl (Nat.le_of_ble_eq_true rfl) sh_o86 ⟨_, rfl, rfl⟩ (Nat.le_of_ble_eq_true rfl) ?_
    rintro _ _ ⟨rfl, rfl⟩
    exact k_iret dX12_soonest_13 rfl ⟨_, rfl, by (try dsimp only); first | (rw [if_neg (by omega)]; exact ⟨rfl, rfl⟩) | (rw [if_pos (by omega)]; exact ⟨rfl, hF.sc.tr hg.sc⟩)⟩
theorem lp_start {V G : Mem} (hV : Vok V) (hH : HD V (vAll V) G) {a : Int} : ∀ (d : Nat) (t best first : Int) (j5 : Option Value), t + d = 60 → 0 ≤ t → 0 ≤ first ∧ first ≤ 61 → RP M_X12_start 30 [some (.ref 86), some (.int (iI a)), some (.int (iI best)), some (.int (iI first)), some (.int (iI t)), j5] [] G (vx (vStart V d t best (min first 60)) G) := by
  have hset := vAll_lt hV
  intro d
  induction d with
  | zero =>
    intro t best first j5 htd ht0 hf
    refine k_iload dX12_start_30 rfl ?_
    refine k_bipush dX12_start_32 (by decide) ?_
    refine k_icmp_ge 78 dX12_start_34 (by decide) ⟨by omega, by omega⟩ ⟨by decide, by decide⟩ (fun h34 => ?_) (fun h34 => absurd h34 (by omega))
    refine k_iload_n dX12_start_78 rfl ?_
    exact k_iret dX12_start_79 rfl ⟨_, rfl, rfl, rfl⟩
  | succ d ih =>
    intro t best first j5 htd ht0 hf
    have e := vStart.eq_2 V t best (min first 60) d
    have bt := vThere_b (V := V) (set := vAll V) (a := t) (by omega)
    refine k_iload dX12_start_30 rfl ?_
    refine k_bipush dX12_start_32 (by decide) ?_
    refine k_icmp_ge 78 dX12_start_34 (by decide) ⟨by omega, by omega⟩ ⟨by decide, by decide⟩ (fun h34 => absurd h34 (by omega)) (fun h34 => ?_)
    refine k_aload_n dX12_start_37 rfl ?_
    refine k_iload dX12_start_38 rfl ?_
    refine k_callVi [.int (iI _)] dX12_start_40 s_X12_start_165 rfl (m_xThereFrom hV hset hH (by omega)) rfl (Nat.le_of_ble_eq_true rfl) sh_o86 ⟨_, rfl, rfl⟩ (Nat.le_of_ble_eq_true rfl) ?_
    rintro _ _ ⟨rfl, rfl⟩
    refine k_istore (L' := [_, _, _, _, _, _]) dX12_start_43 (Nat.le_of_ble_eq_true rfl) rfl ?_
    refine k_iload dX12_start_45 rfl ?_
    refine k_bipush dX12_start_47 (by decide) ?_
    refine k_icmp_eq 63 dX12_start_49 (by decide) ⟨by omega, by omega⟩ ⟨by decide, by decide⟩ (fun h49 => ?_) (fun h49 => ?_)
    · skip
      refine k_iload_n dX12_start_63 rfl ?_
      refine k_istore_n (L' := [_, _, _, _, _, _]) dX12_start_64 (Nat.le_of_ble_eq_true rfl) rfl ?_
      refine k_iload_n dX12_start_65 rfl ?_
      refine k_iload dX12_start_66 rfl ?_
      refine k_callSi [.int (iI _), .int (iI _)] dX12_start_68 s_X12_start_119 rfl (m_xLeast (by first | assumption | exact ⟨by omega, by omega⟩) (by first | assumption | exact ⟨by omega, by omega⟩)) rfl (Nat.le_of_ble_eq_true rfl) ?_
      rintro _ _ ⟨rfl, rfl⟩
      refine k_istore_n (L' := [_, _, _, _, _, _]) dX12_start_71 (Nat.le_of_ble_eq_true rfl) rfl ?_
      refine k_iinc (L' := [_, _, _, _, _, _]) dX12_start_72 rfl (Nat.le_of_ble_eq_true rfl) rfl ?_
      refine k_goto 30 dX12_start_75 (by decide) ?_
      have k := fun b => ih (t + 1) b (min first (vThere V (vAll V) t)) (some (.int (iI (vThere V (vAll V) t)))) (by omega) (by omega) (by omega)
      first | (rw [if_pos (by omega), show vThere V (vAll V) t = min (min first (vThere V (vAll V) t)) 60 by omega] at e; rw [e]; exact k _) | (rw [if_neg (by omega)] at e; rw [e, show min first 60 = min (min first (vThere V (vAll V) t)) 60 by omega]; exact k _)
    · skip
      refine k_iload dX12_start_52 rfl ?_
      refine k_iload_n dX12_start_54 rfl ?_
      refine k_icmp_gt 63 dX12_start_55 (by decide) ⟨by omega, by omega⟩ ⟨by omega, by omega⟩ (fun h55 => ?_) (fun h55 => ?_)
      · skip
        refine k_iload_n dX12_start_63 rfl ?_
        refine k_istore_n (L' := [_, _, _, _, _, _]) dX12_start_64 (Nat.le_of_ble_eq_true rfl) rfl ?_
        refine k_iload_n dX12_start_65 rfl ?_
        refine k_iload dX12_start_66 rfl ?_
        refine k_callSi [.int (iI _), .int (iI _)] dX12_start_68 s_X12_start_119 rfl (m_xLeast (by first | assumption | exact ⟨by omega, by omega⟩) (by first | assumption | exact ⟨by omega, by omega⟩)) rfl (Nat.le_of_ble_eq_true rfl) ?_
        rintro _ _ ⟨rfl, rfl⟩
        refine k_istore_n (L' := [_, _, _, _, _, _]) dX12_start_71 (Nat.le_of_ble_eq_true rfl) rfl ?_
        refine k_iinc (L' := [_, _, _, _, _, _]) dX12_start_72 rfl (Nat.le_of_ble_eq_true rfl) rfl ?_
        refine k_goto 30 dX12_start_75 (by decide) ?_
        have k := fun b => ih (t + 1) b (min first (vThere V (vAll V) t)) (some (.int (iI (vThere V (vAll V) t)))) (by omega) (by omega) (by omega)
        first | (rw [if_pos (by omega), show vThere V (vAll V) t = min (min first (vThere V (vAll V) t)) 60 by omega] at e; rw [e]; exact k _) | (rw [if_neg (by omega)] at e; rw [e, show min first 60 = min (min first (vThere V (vAll V) t)) 60 by omega]; exact k _)
      · skip
        refine k_iload dX12_start_58 rfl ?_
        refine k_goto 64 dX12_start_60 (by decide) ?_
        refine k_istore_n (L' := [_, _, _, _, _, _]) dX12_start_64 (Nat.le_of_ble_eq_true rfl) rfl ?_
        refine k_iload_n dX12_start_65 rfl ?_
        refine k_iload dX12_start_66 rfl ?_
        refine k_callSi [.int (iI _), .int (iI _)] dX12_start_68 s_X12_start_119 rfl (m_xLeast (by first | assumption | exact ⟨by omega, by omega⟩) (by first | assumption | exact ⟨by omega, by omega⟩)) rfl (Nat.le_of_ble_eq_true rfl) ?_
        rintro _ _ ⟨rfl, rfl⟩
        refine k_istore_n (L' := [_, _, _, _, _, _]) dX12_start_71 (Nat.le_of_ble_eq_true rfl) rfl ?_
        refine k_iinc (L' := [_, _, _, _, _, _]) dX12_start_72 rfl (Nat.le_of_ble_eq_true rfl) rfl ?_
        refine k_goto 30 dX12_start_75 (by decide) ?_
        have k := fun b => ih (t + 1) b (min first (vThere V (vAll V) t)) (some (.int (iI (vThere V (vAll V) t)))) (by omega) (by omega) (by omega)
        first | (rw [if_pos (by omega), show vThere V (vAll V) t = min (min first (vThere V (vAll V) t)) 60 by omega] at e; rw [e]; exact k _) | (rw [if_neg (by omega)] at e; rw [e, show min first 60 = min (min first (vThere V (vAll V) t)) 60 by omega]; exact k _)
theorem m_xStart {V G : Mem} (hV : Vok V) (hN : NW V G) {a : Int} (ha : R32 a) : MP M_X12_start [.ref 86, .int (iI a)] G (vi fun v g => if 0 ≤ a ∧ a ≤ 59 then (vStart V (60 - a).toNat a (-1) 60 = v ∧ SC G g) else (-2 = v ∧ xB G = g)) := by
  have h0 := hN.1.1
  have hn := hV.2.2.1
  have hset := vAll_lt hV
  refine MP.of [some (.ref 86), some (.int (iI a)), none, none, none, none] (plainFor_of_name pn_X12) (Nat.le_of_ble_eq_true rfl) rfl ?_
  refine k_iload_n dX12_start_0 rfl ?_
  refine k_callSi [.int (iI _)] dX12_start_1 s_X12_start_149 rfl (m_xisMinute (by first | assumption | exact ⟨by omega, by omega⟩)) rfl (Nat.le_of_ble_eq_true rfl) ?_
  rintro _ _ ⟨rfl, rfl⟩
  refine k_ifb_ne 14 dX12_start_4 (by decide) (fun h4 => ?_) (fun h4 => ?_)
  · skip
    refine k_iconst dX12_start_14 ?_
    refine k_istore_n (L' := [_, _, _, _, _, _]) dX12_start_15 (Nat.le_of_ble_eq_true rfl) rfl ?_
    refine k_bipush dX12_start_16 (by decide) ?_
    refine k_istore_n (L' := [_, _, _, _, _, _]) dX12_start_18 (Nat.le_of_ble_eq_true rfl) rfl ?_
    refine k_aload_n dX12_start_19 rfl ?_
    refine k_aload_n dX12_start_20 rfl ?_
    refine k_callVi [] dX12_start_21 s_X12_start_152 rfl (NW.all hN hV) rfl (Nat.le_of_ble_eq_true rfl) sh_o86 ⟨_, rfl, rfl⟩ (Nat.le_of_ble_eq_true rfl) ?_
    rintro _ _ ⟨rfl, rfl⟩
    refine k_callVv [.int (iI _)] dX12_start_24 s_X12_start_155 rfl (m_xLayHand hV hN) rfl (Nat.le_of_ble_eq_true rfl) sh_o86 ⟨_, rfl, rfl⟩ (Nat.le_of_ble_eq_true rfl) ?_
    rintro g1 ⟨hF, hH⟩
    refine k_iload_n dX12_start_27 rfl ?_
    refine k_istore (L' := [_, _, _, _, _, _]) dX12_start_28 (Nat.le_of_ble_eq_true rfl) rfl ?_
    refine (lp_start hV hH (60 - a).toNat a (-1) 61 _ (by omega) (by omega) (by omega)).mono ?_
    rintro o k ⟨v, h1, h2, h5⟩
    exact ⟨v, h1, by dsimp only; rw [if_pos (by omega)]; exact ⟨h2, h5 ▸ hF.sc⟩⟩
  · skip
    refine k_aload_n dX12_start_7 rfl ?_
    refine k_bipush dX12_start_8 (by decide) ?_
    refine k_callVi [.int (iI _)] dX12_start_10 s_X12_start_75 rfl m_xBad rfl (Nat.le_of_ble_eq_true rfl) sh_o86 ⟨_, rfl, rfl⟩ (Nat.le_of_ble_eq_true rfl) ?_
    rintro _ _ ⟨rfl, rfl⟩
    exact k_iret dX12_start_13 rfl ⟨_, rfl, by (try dsimp only); first | (rw [if_neg (by omega)]; exact ⟨rfl, rfl⟩)⟩
