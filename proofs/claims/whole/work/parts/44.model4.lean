/-! ===== the Model: a drive by speeds ===== -/
theorem HF.nw {V G g : Mem} (h : HF G g) (k : NW V G) : NW V g := k.hf h
theorem and_0 : ∀ e : Nat, e < 64 → e &&& (63 ^^^ 0) = e := by decide +kernel
theorem q_ob_0 {P H : Nat → Int} {a b : Int} (h : b < a) : ∀ n, q_ob P H a b n = 0
  | 0 => rfl
  | n + 1 => by
    unfold q_ob
    rw [if_neg (fun q => by omega)]
    exact q_ob_0 h n
/-- now's speeds -/
def SP (V G : Mem) : Prop := G 87 3 = V 0 8 ∧ ∀ i : Nat, (i : Int) < V 0 8 → G 87 (36 + i) = V 6 i
theorem SP.sc {V G g : Mem} (h : SP V G) (k : SC G g) : SP V g := by
  have e : ∀ b, g 87 b = G 87 b := fun b => k 87 b (by decide) (by omega)
  unfold SP
  simp only [e]
  exact h
theorem lp_pastIn {V G : Mem} (hV : Vok V) (hH : HD V (vAll V) G) {a b t : Int} (ha : 0 ≤ a ∧ a ≤ 47) (hb : 0 ≤ b ∧ b ≤ 47) (ht : 0 ≤ t ∧ t ≤ 60) (hab : a < b) : ∀ i : Nat, i ≤ (V 0 2).toNat → RP M_X12_pastIn 6 [some (.ref 86), some (.int (iI a)), some (.int (iI b)), some (.int (iI t)), some (.int (iI (((q_ob (vP V t) (vH V t) a b i : Nat)) : Int))), some (.int (iI (i : Int)))] [] G (vx (((q_ob (vP V t) (vH V t) a b (V 0 2).toNat : Nat)) : Int) G) := by
  have hn := hV.2.2.1
  have h0 := hH.1.1
  have hset := vAll_lt hV
  refine cnt ?_ (fun i hi ih => ?_)
  · skip
    refine k_iload dX12_pastIn_6 rfl ?_
    refine k_aload_n dX12_pastIn_8 rfl ?_
    refine k_callVi [] dX12_pastIn_9 s_X12_pastIn_61 rfl m_xChildren rfl (Nat.le_of_ble_eq_true rfl) sh_o86 ⟨_, rfl, rfl⟩ (Nat.le_of_ble_eq_true rfl) ?_
    rintro _ _ ⟨rfl, rfl⟩
    refine k_icmp_ge 67 dX12_pastIn_12 (by decide) ⟨by omega, by omega⟩ ⟨by omega, by omega⟩ (fun h12 => ?_) (fun h12 => absurd h12 (by omega))
    refine k_iload dX12_pastIn_67 rfl ?_
    exact k_iret dX12_pastIn_69 rfl ⟨_, rfl, rfl, rfl⟩
  · have e := q_ob.eq_2 (vP V t) (vH V t) a b i
    have b1 := vP_b hV ht i
    have hin := vAll_in hV (c := i) (by omega)
    refine k_iload dX12_pastIn_6 rfl ?_
    refine k_aload_n dX12_pastIn_8 rfl ?_
    refine k_callVi [] dX12_pastIn_9 s_X12_pastIn_61 rfl m_xChildren rfl (Nat.le_of_ble_eq_true rfl) sh_o86 ⟨_, rfl, rfl⟩ (Nat.le_of_ble_eq_true rfl) ?_
    rintro _ _ ⟨rfl, rfl⟩
    refine k_icmp_ge 67 dX12_pastIn_12 (by decide) ⟨by omega, by omega⟩ ⟨by omega, by omega⟩ (fun h12 => absurd h12 (by omega)) (fun h12 => ?_)
    refine k_iload_n dX12_pastIn_15 rfl ?_
    refine k_iload_n dX12_pastIn_16 rfl ?_
    refine k_icmp_le 67 dX12_pastIn_17 (by decide) ⟨by omega, by omega⟩ ⟨by omega, by omega⟩ (fun h17 => absurd h17 (by omega)) (fun h17 => ?_)
    refine k_iload dX12_pastIn_20 rfl ?_
    refine k_aload_n dX12_pastIn_22 rfl ?_
    refine k_iload dX12_pastIn_23 rfl ?_
    refine k_iload_n dX12_pastIn_25 rfl ?_
    refine k_callVi [.int (iI _), .int (iI _)] dX12_pastIn_26 s_X12_pastIn_125 rfl (m_xIsOut hV hset hH (by omega) ht) rfl (Nat.le_of_ble_eq_true rfl) sh_o86 ⟨_, rfl, rfl⟩ (Nat.le_of_ble_eq_true rfl) ?_
    rintro _ _ ⟨rfl, rfl⟩
    refine k_ifb_eq 57 dX12_pastIn_29 (by decide) (fun h29 => ?_) (fun h29 => ?_)
    · skip
      refine k_iconst dX12_pastIn_57 ?_
      refine k_ior _ 0 dX12_pastIn_58 rfl rfl ?_
      refine k_istore (L' := [_, _, _, _, _, _]) dX12_pastIn_59 (Nat.le_of_ble_eq_true rfl) rfl ?_
      refine k_iinc (L' := [_, _, _, _, _, _]) dX12_pastIn_61 rfl (Nat.le_of_ble_eq_true rfl) rfl ?_
      refine k_goto 6 dX12_pastIn_64 (by decide) ?_
      first | (rw [if_pos ⟨h29.2, by omega, by omega⟩] at e; rw [e] at ih; exact ih) | (rw [if_neg (fun q => by first | exact h29 ⟨hin, q.1⟩ | omega)] at e; rw [e] at ih; rw [Nat.or_zero]; exact ih)
    · skip
      refine k_aload_n dX12_pastIn_32 rfl ?_
      refine k_iload dX12_pastIn_33 rfl ?_
      refine k_iload_n dX12_pastIn_35 rfl ?_
      refine k_callVi [.int (iI _), .int (iI _)] dX12_pastIn_36 s_X12_pastIn_129 rfl (m_xCellOf hV hset hH (by omega) ht) rfl (Nat.le_of_ble_eq_true rfl) sh_o86 ⟨_, rfl, rfl⟩ (Nat.le_of_ble_eq_true rfl) ?_
      rintro _ _ ⟨rfl, rfl⟩
      refine k_i2l dX12_pastIn_39 ⟨by omega, by omega⟩ ?_
      refine k_iload_n dX12_pastIn_40 rfl ?_
      refine k_i2l dX12_pastIn_41 ⟨by omega, by omega⟩ ?_
      refine k_iload_n dX12_pastIn_42 rfl ?_
      refine k_i2l dX12_pastIn_43 ⟨by omega, by omega⟩ ?_
      refine k_callSi [.long (lI _), .long (lI _), .long (lI _)] dX12_pastIn_44 s_X12_pastIn_65 rfl (m_xIn (by first | assumption | exact ⟨by omega, by omega⟩) (by first | assumption | exact ⟨by omega, by omega⟩) (by first | assumption | exact ⟨by omega, by omega⟩)) rfl (Nat.le_of_ble_eq_true rfl) ?_
      rintro _ _ ⟨rfl, rfl⟩
      refine k_ifb_eq 57 dX12_pastIn_47 (by decide) (fun h47 => ?_) (fun h47 => ?_)
      · skip
        refine k_iconst dX12_pastIn_57 ?_
        refine k_ior _ 0 dX12_pastIn_58 rfl rfl ?_
        refine k_istore (L' := [_, _, _, _, _, _]) dX12_pastIn_59 (Nat.le_of_ble_eq_true rfl) rfl ?_
        refine k_iinc (L' := [_, _, _, _, _, _]) dX12_pastIn_61 rfl (Nat.le_of_ble_eq_true rfl) rfl ?_
        refine k_goto 6 dX12_pastIn_64 (by decide) ?_
        first | (rw [if_pos ⟨h29.2, by omega, by omega⟩] at e; rw [e] at ih; exact ih) | (rw [if_neg (fun q => by first | exact h29 ⟨hin, q.1⟩ | omega)] at e; rw [e] at ih; rw [Nat.or_zero]; exact ih)
      · skip
        refine k_iconst dX12_pastIn_50 ?_
        refine k_iload dX12_pastIn_51 rfl ?_
        refine k_ishl i dX12_pastIn_53 rfl (by omega) ?_
        refine k_goto 58 dX12_pastIn_54 (by decide) ?_
        refine k_ior _ _ dX12_pastIn_58 rfl rfl ?_
        refine k_istore (L' := [_, _, _, _, _, _]) dX12_pastIn_59 (Nat.le_of_ble_eq_true rfl) rfl ?_
        refine k_iinc (L' := [_, _, _, _, _, _]) dX12_pastIn_61 rfl (Nat.le_of_ble_eq_true rfl) rfl ?_
        refine k_goto 6 dX12_pastIn_64 (by decide) ?_
        first | (rw [if_pos ⟨h29.2, by omega, by omega⟩] at e; rw [e] at ih; exact ih) | (rw [if_neg (fun q => by first | exact h29 ⟨hin, q.1⟩ | omega)] at e; rw [e] at ih; rw [Nat.or_zero]; exact ih)
theorem m_xPastIn {V G : Mem} (hV : Vok V) (hH : HD V (vAll V) G) {a b t : Int} (ha : 0 ≤ a ∧ a ≤ 47) (hb : 0 ≤ b ∧ b ≤ 47) (ht : 0 ≤ t ∧ t ≤ 60)  : MP M_X12_pastIn [.ref 86, .int (iI a), .int (iI b), .int (iI t)] G (vx (((if a < b then q_ob (vP V t) (vH V t) a b (V 0 2).toNat else 0 : Nat)) : Int) G) := by
  have hn := hV.2.2.1
  have h0 := hH.1.1
  refine MP.of [some (.ref 86), some (.int (iI a)), some (.int (iI b)), some (.int (iI t)), none, none] (plainFor_of_name pn_X12) (Nat.le_of_ble_eq_true rfl) rfl ?_
  refine k_iconst dX12_pastIn_0 ?_
  refine k_istore (L' := [_, _, _, _, _, _]) dX12_pastIn_1 (Nat.le_of_ble_eq_true rfl) rfl ?_
  refine k_iconst dX12_pastIn_3 ?_
  refine k_istore (L' := [_, _, _, _, _, _]) dX12_pastIn_4 (Nat.le_of_ble_eq_true rfl) rfl ?_
  by_cases hab : a < b
  · rw [if_pos hab]
    exact lp_pastIn hV hH ha hb ht hab 0 (by omega)
  rw [if_neg hab]
  refine k_iload dX12_pastIn_6 rfl ?_
  refine k_aload_n dX12_pastIn_8 rfl ?_
  refine k_callVi [] dX12_pastIn_9 s_X12_pastIn_61 rfl m_xChildren rfl (Nat.le_of_ble_eq_true rfl) sh_o86 ⟨_, rfl, rfl⟩ (Nat.le_of_ble_eq_true rfl) ?_
  rintro _ _ ⟨rfl, rfl⟩
  refine k_icmp_ge 67 dX12_pastIn_12 (by decide) ⟨by decide, by decide⟩ ⟨by omega, by omega⟩ (fun h12 => ?_) (fun h12 => ?_)
  · skip
    refine k_iload dX12_pastIn_67 rfl ?_
    exact k_iret dX12_pastIn_69 rfl ⟨_, rfl, rfl, rfl⟩
  · skip
    refine k_iload_n dX12_pastIn_15 rfl ?_
    refine k_iload_n dX12_pastIn_16 rfl ?_
    refine k_icmp_le 67 dX12_pastIn_17 (by decide) ⟨by omega, by omega⟩ ⟨by omega, by omega⟩ (fun h17 => ?_) (fun h17 => absurd h17 (by omega))
    refine k_iload dX12_pastIn_67 rfl ?_
    exact k_iret dX12_pastIn_69 rfl ⟨_, rfl, rfl, rfl⟩
theorem lp_fined {V G : Mem} (hV : Vok V) (hS : Sok V) (hP : SP V G) (hH : HD V (vAll V) G) {a w : Int} (ha : 0 ≤ a ∧ a < 60) (hw : 0 ≤ w ∧ w ≤ 2) : ∀ i : Nat, i ≤ vNs V a → ∀ j8 j9 j10 : Option Value, RP M_X12_fined 48 [some (.ref 86), some (.int (iI a)), some (.int (iI w)), some (.int (iI (vCe V i))), some (.int (iI (vFi V a i))), some (.int (iI (vFe V a i))), some (.int (iI ((vPa V a i : Nat) : Int))), some (.int (iI (i : Int))), j8, j9, j10] [] G (vx (if w = 0 then vFi V a (vNs V a) else if w = 1 then vFe V a (vNs V a) else ((vPa V a (vNs V a) : Nat) : Int)) G) := by
  have hn := hV.2.2.1
  have h0 := hH.1.1
  have hs8 := hS.1
  have h8 := hP.1
  have hset := vAll_lt hV
  have hns : vNs V a = (min (V 0 8) (60 - a)).toNat := rfl
  refine cnt (fun j8 j9 j10 => ?_) (fun i hi ih j8 j9 j10 => ?_)
  · skip
    refine k_iload dX12_fined_48 rfl ?_
    refine k_aload_n dX12_fined_50 rfl ?_
    refine k_getR dX12_fined_51 f_X12_7 (Nat.le_of_ble_eq_true rfl) sh_o86 (fun _ => rfl) ?_
    refine k_iconst dX12_fined_54 ?_
    refine k_iald 3 dX12_fined_55 (Nat.le_of_ble_eq_true rfl) sh_a87 (by decide) (by omega) (by omega) ?_
    refine k_icmp_ge 161 dX12_fined_56 (by decide) ⟨by omega, by omega⟩ ⟨by omega, by omega⟩ (fun h56 => ?_) (fun h56 => ?_)
    · skip
      refine k_iload_n dX12_fined_161 rfl ?_
      refine k_if_ne 170 dX12_fined_162 (by decide) ⟨by omega, by omega⟩ (fun h162 => ?_) (fun h162 => ?_)
      · skip
        refine k_iload_n dX12_fined_170 rfl ?_
        refine k_iconst dX12_fined_171 ?_
        refine k_icmp_ne 180 dX12_fined_172 (by decide) ⟨by omega, by omega⟩ ⟨by decide, by decide⟩ (fun h172 => ?_) (fun h172 => ?_)
        · skip
          refine k_iload dX12_fined_180 rfl ?_
          exact k_iret dX12_fined_182 rfl ⟨_, rfl, by first | exact if_pos (by omega) | (rw [if_neg (by omega), if_pos (by omega)]; done) | (rw [if_neg (by omega), if_neg (by omega)]; done), rfl⟩
        · skip
          refine k_iload dX12_fined_175 rfl ?_
          refine k_goto 182 dX12_fined_177 (by decide) ?_
          exact k_iret dX12_fined_182 rfl ⟨_, rfl, by first | exact if_pos (by omega) | (rw [if_neg (by omega), if_pos (by omega)]; done) | (rw [if_neg (by omega), if_neg (by omega)]; done), rfl⟩
      · skip
        refine k_iload dX12_fined_165 rfl ?_
        refine k_goto 182 dX12_fined_167 (by decide) ?_
        exact k_iret dX12_fined_182 rfl ⟨_, rfl, by first | exact if_pos (by omega) | (rw [if_neg (by omega), if_pos (by omega)]; done) | (rw [if_neg (by omega), if_neg (by omega)]; done), rfl⟩
    · skip
      refine k_iload_n dX12_fined_59 rfl ?_
      refine k_iload dX12_fined_60 rfl ?_
      refine k_iadd dX12_fined_62 ?_
      refine k_bipush dX12_fined_63 (by decide) ?_
      refine k_icmp_ge 161 dX12_fined_65 (by decide) ⟨by omega, by omega⟩ ⟨by decide, by decide⟩ (fun h65 => ?_) (fun h65 => absurd h65 (by omega))
      refine k_iload_n dX12_fined_161 rfl ?_
      refine k_if_ne 170 dX12_fined_162 (by decide) ⟨by omega, by omega⟩ (fun h162 => ?_) (fun h162 => ?_)
      · skip
        refine k_iload_n dX12_fined_170 rfl ?_
        refine k_iconst dX12_fined_171 ?_
        refine k_icmp_ne 180 dX12_fined_172 (by decide) ⟨by omega, by omega⟩ ⟨by decide, by decide⟩ (fun h172 => ?_) (fun h172 => ?_)
        · skip
          refine k_iload dX12_fined_180 rfl ?_
          exact k_iret dX12_fined_182 rfl ⟨_, rfl, by first | exact if_pos (by omega) | (rw [if_neg (by omega), if_pos (by omega)]; done) | (rw [if_neg (by omega), if_neg (by omega)]; done), rfl⟩
        · skip
          refine k_iload dX12_fined_175 rfl ?_
          refine k_goto 182 dX12_fined_177 (by decide) ?_
          exact k_iret dX12_fined_182 rfl ⟨_, rfl, by first | exact if_pos (by omega) | (rw [if_neg (by omega), if_pos (by omega)]; done) | (rw [if_neg (by omega), if_neg (by omega)]; done), rfl⟩
      · skip
        refine k_iload dX12_fined_165 rfl ?_
        refine k_goto 182 dX12_fined_167 (by decide) ?_
        exact k_iret dX12_fined_182 rfl ⟨_, rfl, by first | exact if_pos (by omega) | (rw [if_neg (by omega), if_pos (by omega)]; done) | (rw [if_neg (by omega), if_neg (by omega)]; done), rfl⟩
  · have bc := vCe_b hS i
    have bc1 := vCe_b hS (i + 1)
    have bf := vFi_b (V := V) (a := a) i
    have bg := vFe_b hV hS (a := a) ha.1 i (by omega)
    have b6 := hS.2 i
    have e6 := hP.2 i (by omega)
    have ec : vCe V (i + 1) = min 47 (vCe V i + V 6 i) := rfl
    have ef : vFi V a (i + 1) = if 0 < vOv V a i ∧ vFi V a i = -1 then (i : Int) else vFi V a i := rfl
    have eg : vFe V a (i + 1) = if 0 < vOv V a i then vFe V a i + vOv V a i else vFe V a i := rfl
    have ep : vPa V a (i + 1) = vPa V a i ||| (if vCe V i < vCe V (i + 1) then q_ob (vP V (a + i)) (vH V (a + i)) (vCe V i) (vCe V (i + 1)) (V 0 2).toNat else 0) := by
      show (if _ then _ else _) = _
      split
      · rfl
      · rw [Nat.or_zero]
    refine k_iload dX12_fined_48 rfl ?_
    refine k_aload_n dX12_fined_50 rfl ?_
    refine k_getR dX12_fined_51 f_X12_7 (Nat.le_of_ble_eq_true rfl) sh_o86 (fun _ => rfl) ?_
    refine k_iconst dX12_fined_54 ?_
    refine k_iald (3) dX12_fined_55 (Nat.le_of_ble_eq_true rfl) sh_a87 (by decide) (by omega) (by omega) ?_
    refine k_icmp_ge 161 dX12_fined_56 (by decide) ⟨by omega, by omega⟩ ⟨by omega, by omega⟩ (fun h56 => absurd h56 (by omega)) (fun h56 => ?_)
    refine k_iload_n dX12_fined_59 rfl ?_
    refine k_iload dX12_fined_60 rfl ?_
    refine k_iadd dX12_fined_62 ?_
    refine k_bipush dX12_fined_63 (by decide) ?_
    refine k_icmp_ge 161 dX12_fined_65 (by decide) ⟨by omega, by omega⟩ ⟨by decide, by decide⟩ (fun h65 => absurd h65 (by omega)) (fun h65 => ?_)
    refine k_aload_n dX12_fined_68 rfl ?_
    refine k_getR dX12_fined_69 f_X12_7 (Nat.le_of_ble_eq_true rfl) sh_o86 (fun _ => rfl) ?_
    refine k_bipush dX12_fined_72 (by decide) ?_
    refine k_iload dX12_fined_74 rfl ?_
    refine k_iadd dX12_fined_76 ?_
    refine k_iald (36 + i) dX12_fined_77 (Nat.le_of_ble_eq_true rfl) sh_a87 (by decide) (by omega) (by omega) ?_
    rw [e6]
    refine k_istore (L' := [_, _, _, _, _, _, _, _, _, _, _]) dX12_fined_78 (Nat.le_of_ble_eq_true rfl) rfl ?_
    refine k_iload dX12_fined_80 rfl ?_
    refine k_aload_n dX12_fined_82 rfl ?_
    refine k_iload_n dX12_fined_83 rfl ?_
    refine k_iload_n dX12_fined_84 rfl ?_
    refine k_iload dX12_fined_85 rfl ?_
    refine k_iadd dX12_fined_87 ?_
    refine k_callVi [.int (iI _), .int (iI _)] dX12_fined_88 s_X12_fined_159 rfl (m_xLimitAt hV hset hH (by omega) (by omega)) rfl (Nat.le_of_ble_eq_true rfl) sh_o86 ⟨_, rfl, rfl⟩ (Nat.le_of_ble_eq_true rfl) ?_
    rintro _ _ ⟨rfl, rfl⟩
    have bl := vLim_b hV (t := a + i) (by omega) (vAll V) (vCe V i)
    refine k_isub dX12_fined_91 ?_
    rw [show V 6 i - vLim V (a + i) (vAll V) (vCe V i) = vOv V a i from rfl]
    have bo : -10 ≤ vOv V a i ∧ vOv V a i ≤ 15 := (by unfold vOv; omega)
    refine k_istore (L' := [_, _, _, _, _, _, _, _, _, _, _]) dX12_fined_92 (Nat.le_of_ble_eq_true rfl) rfl ?_
    refine k_bipush dX12_fined_94 (by decide) ?_
    refine k_iload_n dX12_fined_96 rfl ?_
    refine k_iload dX12_fined_97 rfl ?_
    refine k_iadd dX12_fined_99 ?_
    refine k_callSi [.int (iI _), .int (iI _)] dX12_fined_100 s_X12_fined_119 rfl (m_xLeast ⟨by omega, by omega⟩ ⟨by omega, by omega⟩) rfl (Nat.le_of_ble_eq_true rfl) ?_
    rintro _ _ ⟨rfl, rfl⟩
    rw [← ec]
    refine k_istore (L' := [_, _, _, _, _, _, _, _, _, _, _]) dX12_fined_103 (Nat.le_of_ble_eq_true rfl) rfl ?_
    refine k_iload dX12_fined_105 rfl ?_
    refine k_if_le 121 dX12_fined_107 (by decide) ⟨by omega, by omega⟩ (fun h107 => ?_) (fun h107 => ?_)
    · skip
      refine k_iload dX12_fined_121 rfl ?_
      refine k_istore (L' := [_, _, _, _, _, _, _, _, _, _, _]) dX12_fined_123 (Nat.le_of_ble_eq_true rfl) rfl ?_
      refine k_iload dX12_fined_125 rfl ?_
      refine k_iconst dX12_fined_127 ?_
      refine k_iload dX12_fined_128 rfl ?_
      refine k_callSi [.int (iI _), .int (iI _)] dX12_fined_130 s_X12_fined_122 rfl (m_xMost ⟨by omega, by omega⟩ ⟨by omega, by omega⟩) rfl (Nat.le_of_ble_eq_true rfl) ?_
      rintro _ _ ⟨rfl, rfl⟩
      refine k_iadd dX12_fined_133 ?_
      refine k_istore (L' := [_, _, _, _, _, _, _, _, _, _, _]) dX12_fined_134 (Nat.le_of_ble_eq_true rfl) rfl ?_
      refine k_iload dX12_fined_136 rfl ?_
      refine k_aload_n dX12_fined_138 rfl ?_
      refine k_iload_n dX12_fined_139 rfl ?_
      refine k_iload dX12_fined_140 rfl ?_
      refine k_iload_n dX12_fined_142 rfl ?_
      refine k_iload dX12_fined_143 rfl ?_
      refine k_iadd dX12_fined_145 ?_
      refine k_callVi [.int (iI _), .int (iI _), .int (iI _)] dX12_fined_146 s_X12_fined_179 rfl (m_xPastIn hV hH (by omega) (by omega) (by omega)) rfl (Nat.le_of_ble_eq_true rfl) sh_o86 ⟨_, rfl, rfl⟩ (Nat.le_of_ble_eq_true rfl) ?_
      rintro _ _ ⟨rfl, rfl⟩
      refine k_ior _ _ dX12_fined_149 rfl rfl ?_
      refine k_istore (L' := [_, _, _, _, _, _, _, _, _, _, _]) dX12_fined_150 (Nat.le_of_ble_eq_true rfl) rfl ?_
      refine k_iload dX12_fined_152 rfl ?_
      refine k_istore_n (L' := [_, _, _, _, _, _, _, _, _, _, _]) dX12_fined_154 (Nat.le_of_ble_eq_true rfl) rfl ?_
      refine k_iinc (L' := [_, _, _, _, _, _, _, _, _, _, _]) dX12_fined_155 rfl (Nat.le_of_ble_eq_true rfl) rfl ?_
      refine k_goto 48 dX12_fined_158 (by decide) ?_
      rw [ef, eg, ep] at ih
      first | rw [if_pos (show 0 < vOv V a i ∧ vFi V a i = -1 from ⟨by omega, by omega⟩)] at ih | rw [if_neg (show ¬ (0 < vOv V a i ∧ vFi V a i = -1) from fun z => by omega)] at ih
      first | rw [if_pos (show 0 < vOv V a i from by omega), show vFe V a i + vOv V a i = vFe V a i + max 0 (vOv V a i) by omega] at ih | rw [if_neg (show ¬ 0 < vOv V a i from by omega), show vFe V a i = vFe V a i + max 0 (vOv V a i) by omega] at ih
      exact ih _ _ _
    · skip
      refine k_iload dX12_fined_110 rfl ?_
      refine k_iconst dX12_fined_112 ?_
      refine k_icmp_ne 121 dX12_fined_113 (by decide) ⟨by omega, by omega⟩ ⟨by decide, by decide⟩ (fun h113 => ?_) (fun h113 => ?_)
      · skip
        refine k_iload dX12_fined_121 rfl ?_
        refine k_istore (L' := [_, _, _, _, _, _, _, _, _, _, _]) dX12_fined_123 (Nat.le_of_ble_eq_true rfl) rfl ?_
        refine k_iload dX12_fined_125 rfl ?_
        refine k_iconst dX12_fined_127 ?_
        refine k_iload dX12_fined_128 rfl ?_
        refine k_callSi [.int (iI _), .int (iI _)] dX12_fined_130 s_X12_fined_122 rfl (m_xMost ⟨by omega, by omega⟩ ⟨by omega, by omega⟩) rfl (Nat.le_of_ble_eq_true rfl) ?_
        rintro _ _ ⟨rfl, rfl⟩
        refine k_iadd dX12_fined_133 ?_
        refine k_istore (L' := [_, _, _, _, _, _, _, _, _, _, _]) dX12_fined_134 (Nat.le_of_ble_eq_true rfl) rfl ?_
        refine k_iload dX12_fined_136 rfl ?_
        refine k_aload_n dX12_fined_138 rfl ?_
        refine k_iload_n dX12_fined_139 rfl ?_
        refine k_iload dX12_fined_140 rfl ?_
        refine k_iload_n dX12_fined_142 rfl ?_
        refine k_iload dX12_fined_143 rfl ?_
        refine k_iadd dX12_fined_145 ?_
        refine k_callVi [.int (iI _), .int (iI _), .int (iI _)] dX12_fined_146 s_X12_fined_179 rfl (m_xPastIn hV hH (by omega) (by omega) (by omega)) rfl (Nat.le_of_ble_eq_true rfl) sh_o86 ⟨_, rfl, rfl⟩ (Nat.le_of_ble_eq_true rfl) ?_
        rintro _ _ ⟨rfl, rfl⟩
        refine k_ior _ _ dX12_fined_149 rfl rfl ?_
        refine k_istore (L' := [_, _, _, _, _, _, _, _, _, _, _]) dX12_fined_150 (Nat.le_of_ble_eq_true rfl) rfl ?_
        refine k_iload dX12_fined_152 rfl ?_
        refine k_istore_n (L' := [_, _, _, _, _, _, _, _, _, _, _]) dX12_fined_154 (Nat.le_of_ble_eq_true rfl) rfl ?_
        refine k_iinc (L' := [_, _, _, _, _, _, _, _, _, _, _]) dX12_fined_155 rfl (Nat.le_of_ble_eq_true rfl) rfl ?_
        refine k_goto 48 dX12_fined_158 (by decide) ?_
        rw [ef, eg, ep] at ih
        first | rw [if_pos (show 0 < vOv V a i ∧ vFi V a i = -1 from ⟨by omega, by omega⟩)] at ih | rw [if_neg (show ¬ (0 < vOv V a i ∧ vFi V a i = -1) from fun z => by omega)] at ih
        first | rw [if_pos (show 0 < vOv V a i from by omega), show vFe V a i + vOv V a i = vFe V a i + max 0 (vOv V a i) by omega] at ih | rw [if_neg (show ¬ 0 < vOv V a i from by omega), show vFe V a i = vFe V a i + max 0 (vOv V a i) by omega] at ih
        exact ih _ _ _
      · skip
        refine k_iload dX12_fined_116 rfl ?_
        refine k_goto 123 dX12_fined_118 (by decide) ?_
        refine k_istore (L' := [_, _, _, _, _, _, _, _, _, _, _]) dX12_fined_123 (Nat.le_of_ble_eq_true rfl) rfl ?_
        refine k_iload dX12_fined_125 rfl ?_
        refine k_iconst dX12_fined_127 ?_
        refine k_iload dX12_fined_128 rfl ?_
        refine k_callSi [.int (iI _), .int (iI _)] dX12_fined_130 s_X12_fined_122 rfl (m_xMost ⟨by omega, by omega⟩ ⟨by omega, by omega⟩) rfl (Nat.le_of_ble_eq_true rfl) ?_
        rintro _ _ ⟨rfl, rfl⟩
        refine k_iadd dX12_fined_133 ?_
        refine k_istore (L' := [_, _, _, _, _, _, _, _, _, _, _]) dX12_fined_134 (Nat.le_of_ble_eq_true rfl) rfl ?_
        refine k_iload dX12_fined_136 rfl ?_
        refine k_aload_n dX12_fined_138 rfl ?_
        refine k_iload_n dX12_fined_139 rfl ?_
        refine k_iload dX12_fined_140 rfl ?_
        refine k_iload_n dX12_fined_142 rfl ?_
        refine k_iload dX12_fined_143 rfl ?_
        refine k_iadd dX12_fined_145 ?_
        refine k_callVi [.int (iI _), .int (iI _), .int (iI _)] dX12_fined_146 s_X12_fined_179 rfl (m_xPastIn hV hH (by omega) (by omega) (by omega)) rfl (Nat.le_of_ble_eq_true rfl) sh_o86 ⟨_, rfl, rfl⟩ (Nat.le_of_ble_eq_true rfl) ?_
        rintro _ _ ⟨rfl, rfl⟩
        refine k_ior _ _ dX12_fined_149 rfl rfl ?_
        refine k_istore (L' := [_, _, _, _, _, _, _, _, _, _, _]) dX12_fined_150 (Nat.le_of_ble_eq_true rfl) rfl ?_
        refine k_iload dX12_fined_152 rfl ?_
        refine k_istore_n (L' := [_, _, _, _, _, _, _, _, _, _, _]) dX12_fined_154 (Nat.le_of_ble_eq_true rfl) rfl ?_
        refine k_iinc (L' := [_, _, _, _, _, _, _, _, _, _, _]) dX12_fined_155 rfl (Nat.le_of_ble_eq_true rfl) rfl ?_
        refine k_goto 48 dX12_fined_158 (by decide) ?_
        rw [ef, eg, ep] at ih
        first | rw [if_pos (show 0 < vOv V a i ∧ vFi V a i = -1 from ⟨by omega, by omega⟩)] at ih | rw [if_neg (show ¬ (0 < vOv V a i ∧ vFi V a i = -1) from fun z => by omega)] at ih
        first | rw [if_pos (show 0 < vOv V a i from by omega), show vFe V a i + vOv V a i = vFe V a i + max 0 (vOv V a i) by omega] at ih | rw [if_neg (show ¬ 0 < vOv V a i from by omega), show vFe V a i = vFe V a i + max 0 (vOv V a i) by omega] at ih
        exact ih _ _ _
theorem m_xFined {V G : Mem} (hV : Vok V) (hS : Sok V) (hN : NW V G) (hP : SP V G) {a w : Int} (ha : R32 a) (hw : R32 w) : MP M_X12_fined [.ref 86, .int (iI a), .int (iI w)] G (vi fun v g => if (0 ≤ a ∧ a ≤ 59) ∧ (0 ≤ w ∧ w ≤ 2) then ((if w = 0 then vFi V a (vNs V a) else if w = 1 then vFe V a (vNs V a) else ((vPa V a (vNs V a) : Nat) : Int)) = v ∧ SC G g) else (-10 = v ∧ xB G = g)) := by
  have h0 := hN.1.1
  have hn := hV.2.2.1
  have hset := vAll_lt hV
  refine MP.of [some (.ref 86), some (.int (iI a)), some (.int (iI w)), none, none, none, none, none, none, none, none] (plainFor_of_name pn_X12) (Nat.le_of_ble_eq_true rfl) rfl ?_
  refine k_iload_n dX12_fined_0 rfl ?_
  refine k_callSi [.int (iI _)] dX12_fined_1 s_X12_fined_149 rfl (m_xisMinute (by first | assumption | exact ⟨by omega, by omega⟩)) rfl (Nat.le_of_ble_eq_true rfl) ?_
  rintro _ _ ⟨rfl, rfl⟩
  refine k_ifb_eq 19 dX12_fined_4 (by decide) (fun h4 => ?_) (fun h4 => ?_)
  · skip
    refine k_aload_n dX12_fined_19 rfl ?_
    refine k_bipush dX12_fined_20 (by decide) ?_
    refine k_callVi [.int (iI _)] dX12_fined_22 s_X12_fined_75 rfl m_xBad rfl (Nat.le_of_ble_eq_true rfl) sh_o86 ⟨_, rfl, rfl⟩ (Nat.le_of_ble_eq_true rfl) ?_
    rintro _ _ ⟨rfl, rfl⟩
    exact k_iret dX12_fined_25 rfl ⟨_, rfl, by (try dsimp only); first | (rw [if_neg (by omega)]; exact ⟨rfl, rfl⟩)⟩
  · skip
    refine k_iload_n dX12_fined_7 rfl ?_
    refine k_i2l dX12_fined_8 ⟨by omega, by omega⟩ ?_
    refine k_lconst dX12_fined_9 ?_
    refine k_ldc2 2 dX12_fined_10 w_905 ?_
    refine k_callSi [.long (lI _), .long (lI _), .long (lI _)] dX12_fined_13 s_X12_fined_65 rfl (m_xIn (by first | assumption | exact ⟨by omega, by omega⟩) (by first | assumption | exact ⟨by omega, by omega⟩) (by first | assumption | exact ⟨by omega, by omega⟩)) rfl (Nat.le_of_ble_eq_true rfl) ?_
    rintro _ _ ⟨rfl, rfl⟩
    refine k_ifb_ne 26 dX12_fined_16 (by decide) (fun h16 => ?_) (fun h16 => ?_)
    · skip
      refine k_iconst dX12_fined_26 ?_
      refine k_istore_n (L' := [_, _, _, _, _, _, _, _, _, _, _]) dX12_fined_27 (Nat.le_of_ble_eq_true rfl) rfl ?_
      refine k_iconst dX12_fined_28 ?_
      refine k_istore (L' := [_, _, _, _, _, _, _, _, _, _, _]) dX12_fined_29 (Nat.le_of_ble_eq_true rfl) rfl ?_
      refine k_iconst dX12_fined_31 ?_
      refine k_istore (L' := [_, _, _, _, _, _, _, _, _, _, _]) dX12_fined_32 (Nat.le_of_ble_eq_true rfl) rfl ?_
      refine k_iconst dX12_fined_34 ?_
      refine k_istore (L' := [_, _, _, _, _, _, _, _, _, _, _]) dX12_fined_35 (Nat.le_of_ble_eq_true rfl) rfl ?_
      refine k_aload_n dX12_fined_37 rfl ?_
      refine k_aload_n dX12_fined_38 rfl ?_
      refine k_callVi [] dX12_fined_39 s_X12_fined_152 rfl (NW.all hN hV) rfl (Nat.le_of_ble_eq_true rfl) sh_o86 ⟨_, rfl, rfl⟩ (Nat.le_of_ble_eq_true rfl) ?_
      rintro _ _ ⟨rfl, rfl⟩
      refine k_callVv [.int (iI _)] dX12_fined_42 s_X12_fined_155 rfl (m_xLayHand hV hN) rfl (Nat.le_of_ble_eq_true rfl) sh_o86 ⟨_, rfl, rfl⟩ (Nat.le_of_ble_eq_true rfl) ?_
      rintro g1 ⟨hF, hH⟩
      refine k_iconst dX12_fined_45 ?_
      refine k_istore (L' := [_, _, _, _, _, _, _, _, _, _, _]) dX12_fined_46 (Nat.le_of_ble_eq_true rfl) rfl ?_
      refine (lp_fined hV hS (hP.sc hF.sc) hH ⟨by omega, by omega⟩ ⟨by omega, by omega⟩ 0 (by omega) _ _ _).mono ?_
      rintro o k ⟨v, h1, h2, h5⟩
      exact ⟨v, h1, by dsimp only; rw [if_pos (by omega)]; exact ⟨h2, h5 ▸ hF.sc⟩⟩
    · skip
      refine k_aload_n dX12_fined_19 rfl ?_
      refine k_bipush dX12_fined_20 (by decide) ?_
      refine k_callVi [.int (iI _)] dX12_fined_22 s_X12_fined_75 rfl m_xBad rfl (Nat.le_of_ble_eq_true rfl) sh_o86 ⟨_, rfl, rfl⟩ (Nat.le_of_ble_eq_true rfl) ?_
      rintro _ _ ⟨rfl, rfl⟩
      exact k_iret dX12_fined_25 rfl ⟨_, rfl, by (try dsimp only); first | (rw [if_neg (by omega)]; exact ⟨rfl, rfl⟩)⟩
theorem lp_toBed {V G : Mem} (hV : Vok V) (hN : NW V G) {a h w : Int} (ha : 0 ≤ a ∧ a ≤ 59) (hh : 0 ≤ h ∧ h ≤ 6) (hw : 0 ≤ w ∧ w ≤ 1)  : ∀ k : Nat, k ≤ vAll V → ∀ (g : Mem) (j7 j8 : Option Value), SC G g → RP M_X12_toBed 46 [some (.ref 86), some (.int (iI a)), some (.int (iI h)), some (.int (iI w)), some (.int (iI (((vBed V a h k).1 : Nat) : Int))), some (.int (iI (vBed V a h k).2)), some (.int (iI ((k : Int) + 1))), j7, j8] [] g (vi fun v k => (if w = 0 then (((vBed V a h (vAll V)).1 : Nat) : Int) else (vBed V a h (vAll V)).2) = v ∧ SC G k) := by
  have hset := vAll_lt hV
  refine cnt (fun g j7 j8 hg => ?_) (fun k hk ih g j7 j8 hg => ?_)
  · skip
    refine k_iload dX12_toBed_46 rfl ?_
    refine k_aload_n dX12_toBed_48 rfl ?_
    refine k_callVi [] dX12_toBed_49 s_X12_toBed_152 rfl (NW.all (hN.sc hg) hV) rfl (Nat.le_of_ble_eq_true rfl) sh_o86 ⟨_, rfl, rfl⟩ (Nat.le_of_ble_eq_true rfl) ?_
    rintro _ _ ⟨rfl, rfl⟩
    refine k_icmp_gt 152 dX12_toBed_52 (by decide) ⟨by omega, by omega⟩ ⟨by omega, by omega⟩ (fun h52 => ?_) (fun h52 => absurd h52 (by omega))
    refine k_iload_n dX12_toBed_152 rfl ?_
    refine k_if_ne 161 dX12_toBed_153 (by decide) ⟨by omega, by omega⟩ (fun h153 => ?_) (fun h153 => ?_)
    · skip
      refine k_iload dX12_toBed_161 rfl ?_
      exact k_iret dX12_toBed_163 rfl ⟨_, rfl, by first | exact if_pos (by omega) | exact if_neg (by omega), hg⟩
    · skip
      refine k_iload dX12_toBed_156 rfl ?_
      refine k_goto 163 dX12_toBed_158 (by decide) ?_
      exact k_iret dX12_toBed_163 rfl ⟨_, rfl, by first | exact if_pos (by omega) | exact if_neg (by omega), hg⟩
  · have bb := vBed_b (V := V) (a := a) (h := h) (by omega) k
    have e := vBed.eq_2 V a h k
    have p1 := q_pc_b (k + 1)
    have p2 := q_pc_b (vBed V a h k).1
    have bs := vSoonest_b (V := V) (set := vAll V &&& (63 ^^^ (k + 1))) (a := a) (by omega)
    refine k_iload dX12_toBed_46 rfl ?_
    refine k_aload_n dX12_toBed_48 rfl ?_
    refine k_callVi [] dX12_toBed_49 s_X12_toBed_152 rfl (NW.all (hN.sc hg) hV) rfl (Nat.le_of_ble_eq_true rfl) sh_o86 ⟨_, rfl, rfl⟩ (Nat.le_of_ble_eq_true rfl) ?_
    rintro _ _ ⟨rfl, rfl⟩
    refine k_icmp_gt 152 dX12_toBed_52 (by decide) ⟨by omega, by omega⟩ ⟨by omega, by omega⟩ (fun h52 => absurd h52 (by omega)) (fun h52 => ?_)
    refine k_iload dX12_toBed_55 rfl ?_
    refine k_callSi [.int (iI _)] dX12_toBed_57 s_X12_toBed_184 rfl (m_xBits (s := k + 1) (by omega)) rfl (Nat.le_of_ble_eq_true rfl) ?_
    rintro _ _ ⟨rfl, rfl⟩
    refine k_iload_n dX12_toBed_60 rfl ?_
    refine k_icmp_gt 146 dX12_toBed_61 (by decide) ⟨by omega, by omega⟩ ⟨by omega, by omega⟩ (fun h61 => ?_) (fun h61 => ?_)
    · skip
      refine k_iinc (L' := [_, _, _, _, _, _, _, _, _]) dX12_toBed_146 rfl (Nat.le_of_ble_eq_true rfl) rfl ?_
      refine k_goto 46 dX12_toBed_149 (by decide) ?_
      first | (rw [if_neg (fun z => by omega)] at e; rw [e] at ih; first | exact ih _ _ _ ((hg.tr hF.sc).tr hg2.sc) | exact ih _ _ _ hg) | (rw [if_pos ⟨by omega, by omega⟩] at e; rw [e] at ih; exact ih _ _ _ ((hg.tr hF.sc).tr hg2.sc)) | (exfalso; omega)
    · skip
      refine k_aload_n dX12_toBed_64 rfl ?_
      refine k_aload_n dX12_toBed_65 rfl ?_
      refine k_callVi [] dX12_toBed_66 s_X12_toBed_152 rfl (NW.all (hN.sc hg) hV) rfl (Nat.le_of_ble_eq_true rfl) sh_o86 ⟨_, rfl, rfl⟩ (Nat.le_of_ble_eq_true rfl) ?_
      rintro _ _ ⟨rfl, rfl⟩
      refine k_iload dX12_toBed_69 rfl ?_
      refine k_iconst dX12_toBed_71 ?_
      refine k_not (k + 1) dX12_toBed_72 rfl (by omega) ?_
      refine k_iandn (vAll V) (k + 1) dX12_toBed_73 rfl rfl hset (by omega) ?_
      refine k_callVv [.int (iI _)] dX12_toBed_74 s_X12_toBed_155 rfl (m_xLayHand hV (hN.sc hg)) rfl (Nat.le_of_ble_eq_true rfl) sh_o86 ⟨_, rfl, rfl⟩ (Nat.le_of_ble_eq_true rfl) ?_
      rintro g1 ⟨hF, hH⟩
      refine k_aload_n dX12_toBed_77 rfl ?_
      refine k_iload_n dX12_toBed_78 rfl ?_
      refine k_callVi [.int (iI _)] dX12_toBed_79 s_X12_toBed_174 rfl (m_xSoonestFrom hV (and_lt hset) hH (by omega)) rfl (Nat.le_of_ble_eq_true rfl) sh_o86 ⟨_, rfl, rfl⟩ (Nat.le_of_ble_eq_true rfl) ?_
      rintro _ g2 ⟨rfl, hg2⟩
      refine k_istore (L' := [_, _, _, _, _, _, _, _, _]) dX12_toBed_82 (Nat.le_of_ble_eq_true rfl) rfl ?_
      refine k_iload dX12_toBed_84 rfl ?_
      refine k_iload dX12_toBed_86 rfl ?_
      refine k_icmp_lt 111 dX12_toBed_88 (by decide) ⟨by omega, by omega⟩ ⟨by omega, by omega⟩ (fun h88 => ?_) (fun h88 => ?_)
      · skip
        refine k_iconst dX12_toBed_111 ?_
        refine k_goto 116 dX12_toBed_112 (by decide) ?_
        refine k_istore (L' := [_, _, _, _, _, _, _, _, _]) dX12_toBed_116 (Nat.le_of_ble_eq_true rfl) rfl ?_
        refine k_iload dX12_toBed_118 rfl ?_
        refine k_if_eq 128 dX12_toBed_120 (by decide) ⟨by decide, by decide⟩ (fun h => False.elim (by revert h; decide)) (fun _ => ?_)
        refine k_iload dX12_toBed_123 rfl ?_
        refine k_goto 130 dX12_toBed_125 (by decide) ?_
        refine k_istore (L' := [_, _, _, _, _, _, _, _, _]) dX12_toBed_130 (Nat.le_of_ble_eq_true rfl) rfl ?_
        refine k_iload dX12_toBed_132 rfl ?_
        refine k_if_eq 142 dX12_toBed_134 (by decide) ⟨by decide, by decide⟩ (fun h => False.elim (by revert h; decide)) (fun _ => ?_)
        refine k_iload dX12_toBed_137 rfl ?_
        refine k_goto 144 dX12_toBed_139 (by decide) ?_
        refine k_istore (L' := [_, _, _, _, _, _, _, _, _]) dX12_toBed_144 (Nat.le_of_ble_eq_true rfl) rfl ?_
        refine k_iinc (L' := [_, _, _, _, _, _, _, _, _]) dX12_toBed_146 rfl (Nat.le_of_ble_eq_true rfl) rfl ?_
        refine k_goto 46 dX12_toBed_149 (by decide) ?_
        first | (rw [if_neg (fun z => by omega)] at e; rw [e] at ih; first | exact ih _ _ _ ((hg.tr hF.sc).tr hg2.sc) | exact ih _ _ _ hg) | (rw [if_pos ⟨by omega, by omega⟩] at e; rw [e] at ih; exact ih _ _ _ ((hg.tr hF.sc).tr hg2.sc)) | (exfalso; omega)
      · skip
        refine k_iload dX12_toBed_91 rfl ?_
        refine k_iload dX12_toBed_93 rfl ?_
        refine k_icmp_ne 115 dX12_toBed_95 (by decide) ⟨by omega, by omega⟩ ⟨by omega, by omega⟩ (fun h95 => ?_) (fun h95 => ?_)
        · skip
          refine k_iconst dX12_toBed_115 ?_
          refine k_istore (L' := [_, _, _, _, _, _, _, _, _]) dX12_toBed_116 (Nat.le_of_ble_eq_true rfl) rfl ?_
          refine k_iload dX12_toBed_118 rfl ?_
          refine k_if_eq 128 dX12_toBed_120 (by decide) ⟨by decide, by decide⟩ (fun _ => ?_) (fun h => False.elim (by revert h; decide))
          refine k_iload dX12_toBed_128 rfl ?_
          refine k_istore (L' := [_, _, _, _, _, _, _, _, _]) dX12_toBed_130 (Nat.le_of_ble_eq_true rfl) rfl ?_
          refine k_iload dX12_toBed_132 rfl ?_
          refine k_if_eq 142 dX12_toBed_134 (by decide) ⟨by decide, by decide⟩ (fun _ => ?_) (fun h => False.elim (by revert h; decide))
          refine k_iload dX12_toBed_142 rfl ?_
          refine k_istore (L' := [_, _, _, _, _, _, _, _, _]) dX12_toBed_144 (Nat.le_of_ble_eq_true rfl) rfl ?_
          refine k_iinc (L' := [_, _, _, _, _, _, _, _, _]) dX12_toBed_146 rfl (Nat.le_of_ble_eq_true rfl) rfl ?_
          refine k_goto 46 dX12_toBed_149 (by decide) ?_
          first | (rw [if_neg (fun z => by omega)] at e; rw [e] at ih; first | exact ih _ _ _ ((hg.tr hF.sc).tr hg2.sc) | exact ih _ _ _ hg) | (rw [if_pos ⟨by omega, by omega⟩] at e; rw [e] at ih; exact ih _ _ _ ((hg.tr hF.sc).tr hg2.sc)) | (exfalso; omega)
        · skip
          refine k_iload dX12_toBed_98 rfl ?_
          refine k_callSi [.int (iI _)] dX12_toBed_100 s_X12_toBed_184 rfl (m_xBits (s := k + 1) (by omega)) rfl (Nat.le_of_ble_eq_true rfl) ?_
          rintro _ _ ⟨rfl, rfl⟩
          refine k_iload dX12_toBed_103 rfl ?_
          refine k_callSi [.int (iI _)] dX12_toBed_105 s_X12_toBed_184 rfl (m_xBits (s := (vBed V a h k).1) (by omega)) rfl (Nat.le_of_ble_eq_true rfl) ?_
          rintro _ _ ⟨rfl, rfl⟩
          refine k_icmp_ge 115 dX12_toBed_108 (by decide) ⟨by omega, by omega⟩ ⟨by omega, by omega⟩ (fun h108 => ?_) (fun h108 => ?_)
          · skip
            refine k_iconst dX12_toBed_115 ?_
            refine k_istore (L' := [_, _, _, _, _, _, _, _, _]) dX12_toBed_116 (Nat.le_of_ble_eq_true rfl) rfl ?_
            refine k_iload dX12_toBed_118 rfl ?_
            refine k_if_eq 128 dX12_toBed_120 (by decide) ⟨by decide, by decide⟩ (fun _ => ?_) (fun h => False.elim (by revert h; decide))
            refine k_iload dX12_toBed_128 rfl ?_
            refine k_istore (L' := [_, _, _, _, _, _, _, _, _]) dX12_toBed_130 (Nat.le_of_ble_eq_true rfl) rfl ?_
            refine k_iload dX12_toBed_132 rfl ?_
            refine k_if_eq 142 dX12_toBed_134 (by decide) ⟨by decide, by decide⟩ (fun _ => ?_) (fun h => False.elim (by revert h; decide))
            refine k_iload dX12_toBed_142 rfl ?_
            refine k_istore (L' := [_, _, _, _, _, _, _, _, _]) dX12_toBed_144 (Nat.le_of_ble_eq_true rfl) rfl ?_
            refine k_iinc (L' := [_, _, _, _, _, _, _, _, _]) dX12_toBed_146 rfl (Nat.le_of_ble_eq_true rfl) rfl ?_
            refine k_goto 46 dX12_toBed_149 (by decide) ?_
            first | (rw [if_neg (fun z => by omega)] at e; rw [e] at ih; first | exact ih _ _ _ ((hg.tr hF.sc).tr hg2.sc) | exact ih _ _ _ hg) | (rw [if_pos ⟨by omega, by omega⟩] at e; rw [e] at ih; exact ih _ _ _ ((hg.tr hF.sc).tr hg2.sc)) | (exfalso; omega)
          · skip
            refine k_iconst dX12_toBed_111 ?_
            refine k_goto 116 dX12_toBed_112 (by decide) ?_
            refine k_istore (L' := [_, _, _, _, _, _, _, _, _]) dX12_toBed_116 (Nat.le_of_ble_eq_true rfl) rfl ?_
            refine k_iload dX12_toBed_118 rfl ?_
            refine k_if_eq 128 dX12_toBed_120 (by decide) ⟨by decide, by decide⟩ (fun h => False.elim (by revert h; decide)) (fun _ => ?_)
            refine k_iload dX12_toBed_123 rfl ?_
            refine k_goto 130 dX12_toBed_125 (by decide) ?_
            refine k_istore (L' := [_, _, _, _, _, _, _, _, _]) dX12_toBed_130 (Nat.le_of_ble_eq_true rfl) rfl ?_
            refine k_iload dX12_toBed_132 rfl ?_
            refine k_if_eq 142 dX12_toBed_134 (by decide) ⟨by decide, by decide⟩ (fun h => False.elim (by revert h; decide)) (fun _ => ?_)
            refine k_iload dX12_toBed_137 rfl ?_
            refine k_goto 144 dX12_toBed_139 (by decide) ?_
            refine k_istore (L' := [_, _, _, _, _, _, _, _, _]) dX12_toBed_144 (Nat.le_of_ble_eq_true rfl) rfl ?_
            refine k_iinc (L' := [_, _, _, _, _, _, _, _, _]) dX12_toBed_146 rfl (Nat.le_of_ble_eq_true rfl) rfl ?_
            refine k_goto 46 dX12_toBed_149 (by decide) ?_
            first | (rw [if_neg (fun z => by omega)] at e; rw [e] at ih; first | exact ih _ _ _ ((hg.tr hF.sc).tr hg2.sc) | exact ih _ _ _ hg) | (rw [if_pos ⟨by omega, by omega⟩] at e; rw [e] at ih; exact ih _ _ _ ((hg.tr hF.sc).tr hg2.sc)) | (exfalso; omega)
theorem m_xToBed {V G : Mem} (hV : Vok V) (hN : NW V G) {a h w : Int} (ha : R32 a) (hh : R32 h) (hw : R32 w) : MP M_X12_toBed [.ref 86, .int (iI a), .int (iI h), .int (iI w)] G (vi fun v g => if (0 ≤ a ∧ a ≤ 59) ∧ (0 ≤ h ∧ h ≤ 6) ∧ (0 ≤ w ∧ w ≤ 1) then ((if w = 0 then (((vBed V a h (vAll V)).1 : Nat) : Int) else (vBed V a h (vAll V)).2) = v ∧ SC G g) else (-2 = v ∧ xB G = g)) := by
  have h0 := hN.1.1
  have hn := hV.2.2.1
  have hset := vAll_lt hV
  have hg : SC G G := SC.rf
  refine MP.of [some (.ref 86), some (.int (iI a)), some (.int (iI h)), some (.int (iI w)), none, none, none, none, none] (plainFor_of_name pn_X12) (Nat.le_of_ble_eq_true rfl) rfl ?_
  refine k_iload_n dX12_toBed_0 rfl ?_
  refine k_callSi [.int (iI _)] dX12_toBed_1 s_X12_toBed_149 rfl (m_xisMinute (by first | assumption | exact ⟨by omega, by omega⟩)) rfl (Nat.le_of_ble_eq_true rfl) ?_
  rintro _ _ ⟨rfl, rfl⟩
  refine k_ifb_eq 29 dX12_toBed_4 (by decide) (fun h4 => ?_) (fun h4 => ?_)
  · skip
    refine k_aload_n dX12_toBed_29 rfl ?_
    refine k_bipush dX12_toBed_30 (by decide) ?_
    refine k_callVi [.int (iI _)] dX12_toBed_32 s_X12_toBed_75 rfl m_xBad rfl (Nat.le_of_ble_eq_true rfl) sh_o86 ⟨_, rfl, rfl⟩ (Nat.le_of_ble_eq_true rfl) ?_
    rintro _ _ ⟨rfl, rfl⟩
    exact k_iret dX12_toBed_35 rfl ⟨_, rfl, by (try dsimp only); first | (rw [if_neg (by omega)]; exact ⟨rfl, rfl⟩)⟩
  · skip
    refine k_iload_n dX12_toBed_7 rfl ?_
    refine k_i2l dX12_toBed_8 ⟨by omega, by omega⟩ ?_
    refine k_lconst dX12_toBed_9 ?_
    refine k_ldc2 6 dX12_toBed_10 w_1086 ?_
    refine k_callSi [.long (lI _), .long (lI _), .long (lI _)] dX12_toBed_13 s_X12_toBed_65 rfl (m_xIn (by first | assumption | exact ⟨by omega, by omega⟩) (by first | assumption | exact ⟨by omega, by omega⟩) (by first | assumption | exact ⟨by omega, by omega⟩)) rfl (Nat.le_of_ble_eq_true rfl) ?_
    rintro _ _ ⟨rfl, rfl⟩
    refine k_ifb_eq 29 dX12_toBed_16 (by decide) (fun h16 => ?_) (fun h16 => ?_)
    · skip
      refine k_aload_n dX12_toBed_29 rfl ?_
      refine k_bipush dX12_toBed_30 (by decide) ?_
      refine k_callVi [.int (iI _)] dX12_toBed_32 s_X12_toBed_75 rfl m_xBad rfl (Nat.le_of_ble_eq_true rfl) sh_o86 ⟨_, rfl, rfl⟩ (Nat.le_of_ble_eq_true rfl) ?_
      rintro _ _ ⟨rfl, rfl⟩
      exact k_iret dX12_toBed_35 rfl ⟨_, rfl, by (try dsimp only); first | (rw [if_neg (by omega)]; exact ⟨rfl, rfl⟩)⟩
    · skip
      refine k_iload_n dX12_toBed_19 rfl ?_
      refine k_i2l dX12_toBed_20 ⟨by omega, by omega⟩ ?_
      refine k_lconst dX12_toBed_21 ?_
      refine k_lconst dX12_toBed_22 ?_
      refine k_callSi [.long (lI _), .long (lI _), .long (lI _)] dX12_toBed_23 s_X12_toBed_65 rfl (m_xIn (by first | assumption | exact ⟨by omega, by omega⟩) (by first | assumption | exact ⟨by omega, by omega⟩) (by first | assumption | exact ⟨by omega, by omega⟩)) rfl (Nat.le_of_ble_eq_true rfl) ?_
      rintro _ _ ⟨rfl, rfl⟩
      refine k_ifb_ne 36 dX12_toBed_26 (by decide) (fun h26 => ?_) (fun h26 => ?_)
      · skip
        refine k_iconst dX12_toBed_36 ?_
        refine k_istore (L' := [_, _, _, _, _, _, _, _, _]) dX12_toBed_37 (Nat.le_of_ble_eq_true rfl) rfl ?_
        refine k_ldc 1000000 dX12_toBed_39 w_1025 ?_
        refine k_istore (L' := [_, _, _, _, _, _, _, _, _]) dX12_toBed_41 (Nat.le_of_ble_eq_true rfl) rfl ?_
        refine k_iconst dX12_toBed_43 ?_
        refine k_istore (L' := [_, _, _, _, _, _, _, _, _]) dX12_toBed_44 (Nat.le_of_ble_eq_true rfl) rfl ?_
        have h7 : 0 ≤ a ∧ a ≤ 59 := by omega
        have h8 : 0 ≤ h ∧ h ≤ 6 := by omega
        have h9 : 0 ≤ w ∧ w ≤ 1 := by omega
        refine RP.mono (P := (vi fun v k => (if w = 0 then (((vBed V a h (vAll V)).1 : Nat) : Int) else (vBed V a h (vAll V)).2) = v ∧ SC G k)) ?_ ?_
        refine k_iload dX12_toBed_46 rfl ?_
        refine k_aload_n dX12_toBed_48 rfl ?_
        refine k_callVi [] dX12_toBed_49 s_X12_toBed_152 rfl (NW.all (hN.sc hg) hV) rfl (Nat.le_of_ble_eq_true rfl) sh_o86 ⟨_, rfl, rfl⟩ (Nat.le_of_ble_eq_true rfl) ?_
        rintro _ _ ⟨rfl, rfl⟩
        refine k_icmp_gt 152 dX12_toBed_52 (by decide) ⟨by decide, by decide⟩ ⟨by omega, by omega⟩ (fun h52 => absurd h52 (by omega)) (fun h52 => ?_)
        refine k_iload dX12_toBed_55 rfl ?_
        refine k_callSi [.int (iI _)] dX12_toBed_57 s_X12_toBed_184 rfl (m_xBits (s := 0) (by omega)) rfl (Nat.le_of_ble_eq_true rfl) ?_
        rintro _ _ ⟨rfl, rfl⟩
        rw [show ((q_pc 0 : Nat) : Int) = 0 from rfl]
        refine k_iload_n dX12_toBed_60 rfl ?_
        refine k_icmp_gt 146 dX12_toBed_61 (by decide) ⟨by omega, by omega⟩ ⟨by omega, by omega⟩ (fun h61 => absurd h61 (by omega)) (fun h61 => ?_)
        refine k_aload_n dX12_toBed_64 rfl ?_
        refine k_aload_n dX12_toBed_65 rfl ?_
        refine k_callVi [] dX12_toBed_66 s_X12_toBed_152 rfl (NW.all (hN.sc hg) hV) rfl (Nat.le_of_ble_eq_true rfl) sh_o86 ⟨_, rfl, rfl⟩ (Nat.le_of_ble_eq_true rfl) ?_
        rintro _ _ ⟨rfl, rfl⟩
        refine k_iload dX12_toBed_69 rfl ?_
        refine k_iconst dX12_toBed_71 ?_
        refine k_not 0 dX12_toBed_72 rfl (by omega) ?_
        refine k_iandn (vAll V) 0 dX12_toBed_73 rfl rfl hset (by omega) ?_
        rw [and_0 (vAll V) hset]
        refine k_callVv [.int (iI _)] dX12_toBed_74 s_X12_toBed_155 rfl (m_xLayHand hV (hN.sc hg)) rfl (Nat.le_of_ble_eq_true rfl) sh_o86 ⟨_, rfl, rfl⟩ (Nat.le_of_ble_eq_true rfl) ?_
        rintro g1 ⟨hF, hH⟩
        refine k_aload_n dX12_toBed_77 rfl ?_
        refine k_iload_n dX12_toBed_78 rfl ?_
        refine k_callVi [.int (iI _)] dX12_toBed_79 s_X12_toBed_174 rfl (m_xSoonestFrom hV hset hH (by omega)) rfl (Nat.le_of_ble_eq_true rfl) sh_o86 ⟨_, rfl, rfl⟩ (Nat.le_of_ble_eq_true rfl) ?_
        rintro _ g2 ⟨rfl, hg2⟩
        have bs := vSoonest_b (V := V) (set := vAll V) (a := a) (by omega)
        refine k_istore (L' := [_, _, _, _, _, _, _, _, _]) dX12_toBed_82 (Nat.le_of_ble_eq_true rfl) rfl ?_
        refine k_iload dX12_toBed_84 rfl ?_
        refine k_iload dX12_toBed_86 rfl ?_
        refine k_icmp_lt 111 dX12_toBed_88 (by decide) ⟨by omega, by omega⟩ ⟨by decide, by decide⟩ (fun h88 => ?_) (fun h88 => absurd h88 (by omega))
        refine k_iconst dX12_toBed_111 ?_
        refine k_goto 116 dX12_toBed_112 (by decide) ?_
        refine k_istore (L' := [_, _, _, _, _, _, _, _, _]) dX12_toBed_116 (Nat.le_of_ble_eq_true rfl) rfl ?_
        refine k_iload dX12_toBed_118 rfl ?_
        refine k_if_eq 128 dX12_toBed_120 (by decide) ⟨by decide, by decide⟩ (fun h => False.elim (by revert h; decide)) (fun _ => ?_)
        refine k_iload dX12_toBed_123 rfl ?_
        refine k_goto 130 dX12_toBed_125 (by decide) ?_
        refine k_istore (L' := [_, _, _, _, _, _, _, _, _]) dX12_toBed_130 (Nat.le_of_ble_eq_true rfl) rfl ?_
        refine k_iload dX12_toBed_132 rfl ?_
        refine k_if_eq 142 dX12_toBed_134 (by decide) ⟨by decide, by decide⟩ (fun h => False.elim (by revert h; decide)) (fun _ => ?_)
        refine k_iload dX12_toBed_137 rfl ?_
        refine k_goto 144 dX12_toBed_139 (by decide) ?_
        refine k_istore (L' := [_, _, _, _, _, _, _, _, _]) dX12_toBed_144 (Nat.le_of_ble_eq_true rfl) rfl ?_
        refine k_iinc (L' := [_, _, _, _, _, _, _, _, _]) dX12_toBed_146 rfl (Nat.le_of_ble_eq_true rfl) rfl ?_
        refine k_goto 46 dX12_toBed_149 (by decide) ?_
        exact lp_toBed hV hN h7 h8 h9 0 (Nat.zero_le _) _ _ _ (hF.sc.tr hg2.sc)
        rintro o k ⟨v, h1, h2, h5⟩
        exact ⟨v, h1, by dsimp only; rw [if_pos (by omega)]; exact ⟨h2, h5⟩⟩
      · skip
        refine k_aload_n dX12_toBed_29 rfl ?_
        refine k_bipush dX12_toBed_30 (by decide) ?_
        refine k_callVi [.int (iI _)] dX12_toBed_32 s_X12_toBed_75 rfl m_xBad rfl (Nat.le_of_ble_eq_true rfl) sh_o86 ⟨_, rfl, rfl⟩ (Nat.le_of_ble_eq_true rfl) ?_
        rintro _ _ ⟨rfl, rfl⟩
        exact k_iret dX12_toBed_35 rfl ⟨_, rfl, by (try dsimp only); first | (rw [if_neg (by omega)]; exact ⟨rfl, rfl⟩)⟩
theorem ug_self {G : Mem} {i j : Nat} : ug G i j (G i j) = G := by
  funext a b
  by_cases e : a = i ∧ b = j
  · obtain ⟨rfl, rfl⟩ := e
    rw [ug_at]
  · rw [ug_ne e]
theorem HD.cell {V g : Mem} {c set : Nat} {y : Int} (h : HD (ug V 3 c y) set g) (v : Int) : HD (ug V 3 c v) set (ug g 92 c v) := by
  obtain ⟨h1, h2, h3⟩ := h
  refine ⟨?_, ?_, fun i hi => ?_⟩
  · simp (disch := omega) only [ug_nc] at h1 ⊢
    exact h1
  · rw [ug_nc (by decide)]
    exact h2
  · have k := h3 i (by simp (disch := omega) only [ug_nc] at hi ⊢; exact hi)
    by_cases e : i = c
    · subst e
      rw [ug_at, ug_at]
      simp (disch := omega) only [ug_nc] at k ⊢
      exact ⟨k.1, k.2.1, trivial, k.2.2.2⟩
    · rw [ug_np (i := 3) (a := 3) e, ug_np (i := 92) (a := 92) e]
      rw [ug_np (i := 3) (a := 3) e] at k
      simp (disch := omega) only [ug_nc] at k ⊢
      exact k
theorem HD.cell0 {V g : Mem} {c set : Nat} (h : HD V set g) : HD (ug V 3 c (V 3 c)) set g := by
  rw [ug_self]
  exact h
theorem HF.put {G g : Mem} {c : Nat} {v : Int} (h : HF G g) : HF G (ug g 92 c v) := fun a b x y z => by
  rw [ug_nc y]
  exact h a b x y z
theorem lp_moveX {V G : Mem} (hV : Vok V) (hN : NW V G) {a : Int} (ha : 0 ≤ a ∧ a ≤ 59) {c : Nat} (hc : (c : Int) < V 0 2) {Post : Option Value → Mem → Prop} (hk : ∀ (k : Mem) (j5 j6 : Option Value), HF G k → HD V (vAll V) k → RP M_X12_move 33 [some (.ref 86), some (.int (iI a)), some (.int (iI (vMv V a (48 * c + 48)).1)), some (.int (iI (vMv V a (48 * c + 48)).2)), some (.int (iI ((c : Int) + 1))), j5, j6] [] k Post) : ∀ x : Nat, x ≤ 48 → ∀ (g : Mem) (y : Int) (j6 : Option Value), HF G g → HD (ug V 3 c y) (vAll V) g → RP M_X12_move 45 [some (.ref 86), some (.int (iI a)), some (.int (iI (vMv V a (48 * c + x)).1)), some (.int (iI (vMv V a (48 * c + x)).2)), some (.int (iI (c : Int))), some (.int (iI (x : Int))), j6] [] g Post := by
  have hn := hV.2.2.1
  have hset := vAll_lt hV
  refine cnt (fun g y j6 hF hH => ?_) (fun x hx ih g y j6 hF hH => ?_)
  · have hN1 := (hN.hf hF).2 c hc
    refine k_iload dX12_move_45 rfl ?_
    refine k_bipush dX12_move_47 (by decide) ?_
    refine k_icmp_gt 100 dX12_move_49 (by decide) ⟨by omega, by omega⟩ ⟨by decide, by decide⟩ (fun h49 => ?_) (fun h49 => absurd h49 (by omega))
    refine k_aload_n dX12_move_100 rfl ?_
    refine k_getR dX12_move_101 f_X12_30 (Nat.le_of_ble_eq_true rfl) sh_o86 (fun _ => rfl) ?_
    refine k_iload dX12_move_104 rfl ?_
    refine k_aload_n dX12_move_106 rfl ?_
    refine k_iload dX12_move_107 rfl ?_
    refine k_iconst dX12_move_109 ?_
    refine k_callVi [.int (iI _), .int (iI _)] dX12_move_110 s_X12_move_98 rfl (m_xGet2 (by omega)) rfl (Nat.le_of_ble_eq_true rfl) sh_o86 ⟨_, rfl, rfl⟩ (Nat.le_of_ble_eq_true rfl) ?_
    rintro _ _ ⟨rfl, rfl⟩
    rw [hN1.2.2.1]
    refine k_iast c dX12_move_113 (Nat.le_of_ble_eq_true rfl) sh_a92 (by decide) (by omega) (by omega) ?_
    refine k_iinc (L' := [_, _, _, _, _, _, _]) dX12_move_114 rfl (Nat.le_of_ble_eq_true rfl) rfl ?_
    refine k_goto 33 dX12_move_117 (by decide) ?_
    exact hk _ _ _ hF.put (by have z := hH.cell (V 3 c); rw [ug_self] at z; exact z)
  · have bt := vThere_b (V := ug V 3 c (x : Int)) (set := vAll V) (a := a) (by omega)
    have bm := vMv_b (V := V) (a := a) (by omega) (48 * c + x)
    have e := vMv.eq_2 V a (48 * c + x)
    rw [show (48 * c + x) / 48 = c by omega, show (48 * c + x) % 48 = x by omega] at e
    rw [show 48 * c + (x + 1) = (48 * c + x).succ by omega, e] at ih
    have hH1 := hH.cell (x : Int)
    refine k_iload dX12_move_45 rfl ?_
    refine k_bipush dX12_move_47 (by decide) ?_
    refine k_icmp_gt 100 dX12_move_49 (by decide) ⟨by omega, by omega⟩ ⟨by decide, by decide⟩ (fun h49 => absurd h49 (by omega)) (fun h49 => ?_)
    refine k_aload_n dX12_move_52 rfl ?_
    refine k_getR dX12_move_53 f_X12_30 (Nat.le_of_ble_eq_true rfl) sh_o86 (fun _ => rfl) ?_
    refine k_iload dX12_move_56 rfl ?_
    refine k_iload dX12_move_58 rfl ?_
    refine k_iast c dX12_move_60 (Nat.le_of_ble_eq_true rfl) sh_a92 (by decide) (by omega) (by omega) ?_
    refine k_aload_n dX12_move_61 rfl ?_
    refine k_iload_n dX12_move_62 rfl ?_
    refine k_callVi [.int (iI _)] dX12_move_63 s_X12_move_165 rfl (m_xThereFrom (hV.cell (by omega)) hset hH1 (by omega)) rfl (Nat.le_of_ble_eq_true rfl) sh_o86 ⟨_, rfl, rfl⟩ (Nat.le_of_ble_eq_true rfl) ?_
    rintro _ _ ⟨rfl, rfl⟩
    refine k_istore (L' := [_, _, _, _, _, _, _]) dX12_move_66 (Nat.le_of_ble_eq_true rfl) rfl ?_
    refine k_iload dX12_move_68 rfl ?_
    refine k_iload_n dX12_move_70 rfl ?_
    refine k_icmp_ge 85 dX12_move_71 (by decide) ⟨by omega, by omega⟩ ⟨by omega, by omega⟩ (fun h71 => ?_) (fun h71 => ?_)
    · skip
      refine k_iload_n dX12_move_85 rfl ?_
      refine k_istore_n (L' := [_, _, _, _, _, _, _]) dX12_move_86 (Nat.le_of_ble_eq_true rfl) rfl ?_
      refine k_iload_n dX12_move_87 rfl ?_
      refine k_iload dX12_move_88 rfl ?_
      refine k_callSi [.int (iI _), .int (iI _)] dX12_move_90 s_X12_move_119 rfl (m_xLeast (by first | assumption | exact ⟨by omega, by omega⟩) (by first | assumption | exact ⟨by omega, by omega⟩)) rfl (Nat.le_of_ble_eq_true rfl) ?_
      rintro _ _ ⟨rfl, rfl⟩
      refine k_istore_n (L' := [_, _, _, _, _, _, _]) dX12_move_93 (Nat.le_of_ble_eq_true rfl) rfl ?_
      refine k_iinc (L' := [_, _, _, _, _, _, _]) dX12_move_94 rfl (Nat.le_of_ble_eq_true rfl) rfl ?_
      refine k_goto 45 dX12_move_97 (by decide) ?_
      first | (rw [if_pos (by omega)] at ih; rw [show min (vMv V a (48 * c + x)).2 (vThere (ug V 3 c (x : Int)) (vAll V) a) = vThere (ug V 3 c (x : Int)) (vAll V) a by omega]; exact ih _ _ _ hF.put hH1) | (rw [if_neg (by omega)] at ih; rw [show min (vMv V a (48 * c + x)).2 (vThere (ug V 3 c (x : Int)) (vAll V) a) = (vMv V a (48 * c + x)).2 by omega]; exact ih _ _ _ hF.put hH1)
    · skip
      refine k_bipush dX12_move_74 (by decide) ?_
      refine k_iload dX12_move_76 rfl ?_
      refine k_imul dX12_move_78 ?_
      refine k_iload dX12_move_79 rfl ?_
      refine k_iadd dX12_move_81 ?_
      refine k_goto 86 dX12_move_82 (by decide) ?_
      refine k_istore_n (L' := [_, _, _, _, _, _, _]) dX12_move_86 (Nat.le_of_ble_eq_true rfl) rfl ?_
      refine k_iload_n dX12_move_87 rfl ?_
      refine k_iload dX12_move_88 rfl ?_
      refine k_callSi [.int (iI _), .int (iI _)] dX12_move_90 s_X12_move_119 rfl (m_xLeast (by first | assumption | exact ⟨by omega, by omega⟩) (by first | assumption | exact ⟨by omega, by omega⟩)) rfl (Nat.le_of_ble_eq_true rfl) ?_
      rintro _ _ ⟨rfl, rfl⟩
      refine k_istore_n (L' := [_, _, _, _, _, _, _]) dX12_move_93 (Nat.le_of_ble_eq_true rfl) rfl ?_
      refine k_iinc (L' := [_, _, _, _, _, _, _]) dX12_move_94 rfl (Nat.le_of_ble_eq_true rfl) rfl ?_
      refine k_goto 45 dX12_move_97 (by decide) ?_
      first | (rw [if_pos (by omega)] at ih; rw [show min (vMv V a (48 * c + x)).2 (vThere (ug V 3 c (x : Int)) (vAll V) a) = vThere (ug V 3 c (x : Int)) (vAll V) a by omega]; exact ih _ _ _ hF.put hH1) | (rw [if_neg (by omega)] at ih; rw [show min (vMv V a (48 * c + x)).2 (vThere (ug V 3 c (x : Int)) (vAll V) a) = (vMv V a (48 * c + x)).2 by omega]; exact ih _ _ _ hF.put hH1)
theorem lp_move {V G : Mem} (hV : Vok V) (hN : NW V G) {a : Int} (ha : 0 ≤ a ∧ a ≤ 59)  : ∀ c : Nat, c ≤ (V 0 2).toNat → ∀ (g : Mem) (j5 j6 : Option Value), HF G g → HD V (vAll V) g → RP M_X12_move 33 [some (.ref 86), some (.int (iI a)), some (.int (iI (vMv V a (48 * c)).1)), some (.int (iI (vMv V a (48 * c)).2)), some (.int (iI (c : Int))), j5, j6] [] g (vi fun v k => (vMv V a (48 * (V 0 2).toNat)).1 = v ∧ HF G k) := by
  have hn := hV.2.2.1
  refine cnt (fun g j5 j6 hF hH => ?_) (fun c hc ih g j5 j6 hF hH => ?_)
  · have h0 := hH.1.1
    refine k_iload dX12_move_33 rfl ?_
    refine k_aload_n dX12_move_35 rfl ?_
    refine k_callVi [] dX12_move_36 s_X12_move_61 rfl m_xChildren rfl (Nat.le_of_ble_eq_true rfl) sh_o86 ⟨_, rfl, rfl⟩ (Nat.le_of_ble_eq_true rfl) ?_
    rintro _ _ ⟨rfl, rfl⟩
    refine k_icmp_ge 120 dX12_move_39 (by decide) ⟨by omega, by omega⟩ ⟨by omega, by omega⟩ (fun h39 => ?_) (fun h39 => absurd h39 (by omega))
    refine k_iload_n dX12_move_120 rfl ?_
    exact k_iret dX12_move_121 rfl ⟨_, rfl, rfl, hF⟩
  · have h0 := hH.1.1
    refine k_iload dX12_move_33 rfl ?_
    refine k_aload_n dX12_move_35 rfl ?_
    refine k_callVi [] dX12_move_36 s_X12_move_61 rfl m_xChildren rfl (Nat.le_of_ble_eq_true rfl) sh_o86 ⟨_, rfl, rfl⟩ (Nat.le_of_ble_eq_true rfl) ?_
    rintro _ _ ⟨rfl, rfl⟩
    refine k_icmp_ge 120 dX12_move_39 (by decide) ⟨by omega, by omega⟩ ⟨by omega, by omega⟩ (fun h39 => absurd h39 (by omega)) (fun h39 => ?_)
    refine k_iconst dX12_move_42 ?_
    refine k_istore (L' := [_, _, _, _, _, _, _]) dX12_move_43 (Nat.le_of_ble_eq_true rfl) rfl ?_
    refine lp_moveX hV hN ha (c := c) (by omega) (fun k j5 j6 hk1 hk2 => ?_) 0 (by omega) g (V 3 c) _ hF hH.cell0
    rw [show 48 * (c + 1) = 48 * c + 48 by omega] at ih
    exact ih k _ _ hk1 hk2
theorem m_xMove {V G : Mem} (hV : Vok V) (hN : NW V G) {a : Int} (ha : R32 a) : MP M_X12_move [.ref 86, .int (iI a)] G (vi fun v g => if 0 ≤ a ∧ a ≤ 59 then ((vMv V a (48 * (V 0 2).toNat)).1 = v ∧ SC G g) else (-2 = v ∧ xB G = g)) := by
  have h0 := hN.1.1
  have hn := hV.2.2.1
  have hset := vAll_lt hV
  refine MP.of [some (.ref 86), some (.int (iI a)), none, none, none, none, none] (plainFor_of_name pn_X12) (Nat.le_of_ble_eq_true rfl) rfl ?_
  refine k_iload_n dX12_move_0 rfl ?_
  refine k_callSi [.int (iI _)] dX12_move_1 s_X12_move_149 rfl (m_xisMinute (by first | assumption | exact ⟨by omega, by omega⟩)) rfl (Nat.le_of_ble_eq_true rfl) ?_
  rintro _ _ ⟨rfl, rfl⟩
  refine k_ifb_ne 14 dX12_move_4 (by decide) (fun h4 => ?_) (fun h4 => ?_)
  · skip
    refine k_aload_n dX12_move_14 rfl ?_
    refine k_aload_n dX12_move_15 rfl ?_
    refine k_callVi [] dX12_move_16 s_X12_move_152 rfl (NW.all hN hV) rfl (Nat.le_of_ble_eq_true rfl) sh_o86 ⟨_, rfl, rfl⟩ (Nat.le_of_ble_eq_true rfl) ?_
    rintro _ _ ⟨rfl, rfl⟩
    refine k_callVv [.int (iI _)] dX12_move_19 s_X12_move_155 rfl (m_xLayHand hV hN) rfl (Nat.le_of_ble_eq_true rfl) sh_o86 ⟨_, rfl, rfl⟩ (Nat.le_of_ble_eq_true rfl) ?_
    rintro g1 ⟨hF, hH⟩
    refine k_iconst dX12_move_22 ?_
    refine k_istore_n (L' := [_, _, _, _, _, _, _]) dX12_move_23 (Nat.le_of_ble_eq_true rfl) rfl ?_
    refine k_aload_n dX12_move_24 rfl ?_
    refine k_iload_n dX12_move_25 rfl ?_
    refine k_callVi [.int (iI _)] dX12_move_26 s_X12_move_165 rfl (m_xThereFrom hV hset hH (by omega)) rfl (Nat.le_of_ble_eq_true rfl) sh_o86 ⟨_, rfl, rfl⟩ (Nat.le_of_ble_eq_true rfl) ?_
    rintro _ _ ⟨rfl, rfl⟩
    refine k_istore_n (L' := [_, _, _, _, _, _, _]) dX12_move_29 (Nat.le_of_ble_eq_true rfl) rfl ?_
    refine k_iconst dX12_move_30 ?_
    refine k_istore (L' := [_, _, _, _, _, _, _]) dX12_move_31 (Nat.le_of_ble_eq_true rfl) rfl ?_
    refine (lp_move hV hN (by omega) 0 (by omega) _ _ _ hF hH).mono ?_
    rintro o k ⟨v, h1, h2, h5⟩
    exact ⟨v, h1, by dsimp only; rw [if_pos (by omega)]; exact ⟨h2, h5.sc⟩⟩
  · skip
    refine k_aload_n dX12_move_7 rfl ?_
    refine k_bipush dX12_move_8 (by decide) ?_
    refine k_callVi [.int (iI _)] dX12_move_10 s_X12_move_75 rfl m_xBad rfl (Nat.le_of_ble_eq_true rfl) sh_o86 ⟨_, rfl, rfl⟩ (Nat.le_of_ble_eq_true rfl) ?_
    rintro _ _ ⟨rfl, rfl⟩
    exact k_iret dX12_move_13 rfl ⟨_, rfl, by (try dsimp only); first | (rw [if_neg (by omega)]; exact ⟨rfl, rfl⟩)⟩
/-- only the table of what they get has changed -/
def G5 (G g : Mem) : Prop := ∀ a b, a ≠ 95 → g a b = G a b
theorem G5.sc {G g : Mem} (h : G5 G g) : SC G g := fun a b x y => h a b (by omega)
theorem G5.hd {V : Mem} {set : Nat} {G g : Mem} (h : HD V set G) (k : G5 G g) : HD V set g := h.fr (fun a b x => k a b (by omega))
theorem q_get_6 {e : Nat → Int} (he : ∀ j, j < 6 → 0 ≤ e j ∧ e j ≤ 61) {o p : Nat} (ho : o < 6) : 0 ≤ q_get e o p ∧ q_get e o p ≤ 100 := by
  have := he o ho
  unfold q_get
  repeat' split
  all_goals omega
theorem q_bst_s {e : Nat → Int} {o p i : Nat} : q_bst e o p (i + 1) = true ↔ q_bst e o p i = true ∧ q_get e i p ≤ q_get e o p := by
  show (q_bst e o p i && decide (q_get e i p ≤ q_get e o p)) = true ↔ _
  rw [Bool.and_eq_true, decide_eq_true_iff]
theorem q_bst_m {e : Nat → Int} {o p : Nat} : ∀ i j, i ≤ j → q_bst e o p j = true → q_bst e o p i = true
  | i, 0, h, k => by rw [show i = 0 by omega]; exact k
  | i, j + 1, h, k => by
    by_cases q : i = j + 1
    · rw [q]; exact k
    · exact q_bst_m i j (by omega) (q_bst_s.mp k).1
theorem q_rest_iff {e : Nat → Int} {o p : Nat} : q_rest e o p = true ↔ q_bst e o p 6 = true ∧ q_bst e p o 6 = true := by
  unfold q_rest
  rw [Bool.and_eq_true]
theorem lp_layGets {V G : Mem} (hV : Vok V) (hH : HD V (vAll V) G) {a : Int} (ha : 0 ≤ a ∧ a ≤ 50) {e : Nat → Int} (he : ∀ j : Nat, j < 6 → e j = vThere V (vAll V) (a + j))  : ∀ k : Nat, k ≤ 36 → ∀ (g : Mem) (j3 j4 : Option Value), G5 G g → (∀ j : Nat, j < k → g 95 j = q_get e (j / 6) (j % 6)) → RP M_X12_layGets 2 [some (.ref 86), some (.int (iI a)), some (.int (iI (k : Int))), j3, j4] [] g (vv fun m => G5 G m ∧ (∀ j : Nat, j < 36 → m 95 j = q_get e (j / 6) (j % 6))) := by
  have hset := vAll_lt hV
  refine cnt (fun g j3 j4 hg hi => ?_) (fun k hk ih g j3 j4 hg hi => ?_)
  · skip
    refine k_iload_n dX12_layGets_2 rfl ?_
    refine k_bipush dX12_layGets_3 (by decide) ?_
    refine k_icmp_ge 74 dX12_layGets_5 (by decide) ⟨by omega, by omega⟩ ⟨by decide, by decide⟩ (fun h5 => ?_) (fun h5 => absurd h5 (by omega))
    exact k_ret dX12_layGets_74 rfl ⟨rfl, hg, hi⟩
  · have hH1 := hg.hd hH
    have b0 := vThere_b (V := V) (set := vAll V) (a := a + ((k / 6 : Nat) : Int)) (by omega)
    have ek := he (k / 6) (by omega)
    rw [← ek] at b0
    have ev : q_get e (k / 6) (k % 6) = (if e (k / 6) = 61 then 0 else 100 - e (k / 6) - (if k % 6 < k / 6 ∧ k / 6 - k % 6 ≤ 2 then 4 else 0)) := rfl
    refine k_iload_n dX12_layGets_2 rfl ?_
    refine k_bipush dX12_layGets_3 (by decide) ?_
    refine k_icmp_ge 74 dX12_layGets_5 (by decide) ⟨by omega, by omega⟩ ⟨by decide, by decide⟩ (fun h5 => absurd h5 (by omega)) (fun h5 => ?_)
    refine k_iload_n dX12_layGets_8 rfl ?_
    refine k_bipush dX12_layGets_9 (by decide) ?_
    refine k_idiv dX12_layGets_11 (by omega) (by omega) ?_
    refine k_iload_n dX12_layGets_12 rfl ?_
    refine k_bipush dX12_layGets_13 (by decide) ?_
    refine k_irem dX12_layGets_15 (by omega) (by omega) ?_
    refine k_isub dX12_layGets_16 ?_
    refine k_istore_n (L' := [_, _, _, _, _]) dX12_layGets_17 (Nat.le_of_ble_eq_true rfl) rfl ?_
    refine k_aload_n dX12_layGets_18 rfl ?_
    refine k_iload_n dX12_layGets_19 rfl ?_
    refine k_iload_n dX12_layGets_20 rfl ?_
    refine k_bipush dX12_layGets_21 (by decide) ?_
    refine k_idiv dX12_layGets_23 (by omega) (by omega) ?_
    refine k_iadd dX12_layGets_24 ?_
    rw [show a + (k : Int) / 6 = a + ((k / 6 : Nat) : Int) by omega]
    refine k_callVi [.int (iI _)] dX12_layGets_25 s_X12_layGets_165 rfl (m_xThereFrom hV hset hH1 (by omega)) rfl (Nat.le_of_ble_eq_true rfl) sh_o86 ⟨_, rfl, rfl⟩ (Nat.le_of_ble_eq_true rfl) ?_
    rw [← ek]
    rintro _ _ ⟨rfl, rfl⟩
    refine k_istore (L' := [_, _, _, _, _]) dX12_layGets_28 (Nat.le_of_ble_eq_true rfl) rfl ?_
    refine k_aload_n dX12_layGets_30 rfl ?_
    refine k_getR dX12_layGets_31 f_X12_39 (Nat.le_of_ble_eq_true rfl) sh_o86 (fun _ => rfl) ?_
    refine k_iload_n dX12_layGets_34 rfl ?_
    refine k_iload dX12_layGets_35 rfl ?_
    refine k_bipush dX12_layGets_37 (by decide) ?_
    refine k_icmp_ne 46 dX12_layGets_39 (by decide) ⟨by omega, by omega⟩ ⟨by decide, by decide⟩ (fun h39 => ?_) (fun h39 => ?_)
    · skip
      refine k_bipush dX12_layGets_46 (by decide) ?_
      refine k_iload dX12_layGets_48 rfl ?_
      refine k_isub dX12_layGets_50 ?_
      refine k_iload_n dX12_layGets_51 rfl ?_
      refine k_iconst dX12_layGets_52 ?_
      refine k_icmp_eq 61 dX12_layGets_53 (by decide) ⟨by omega, by omega⟩ ⟨by decide, by decide⟩ (fun h53 => ?_) (fun h53 => ?_)
      · skip
        refine k_iconst dX12_layGets_61 ?_
        refine k_goto 66 dX12_layGets_62 (by decide) ?_
        refine k_isub dX12_layGets_66 ?_
        refine k_iast k dX12_layGets_67 (Nat.le_of_ble_eq_true rfl) sh_a95 (by decide) (by omega) (by omega) ?_
        refine k_iinc (L' := [_, _, _, _, _]) dX12_layGets_68 rfl (Nat.le_of_ble_eq_true rfl) rfl ?_
        refine k_goto 2 dX12_layGets_71 (by decide) ?_
        refine ih _ _ _ (fun p q x => by rw [ug_nc x]; exact hg p q x) (fun j hj => ?_)
        by_cases z : j = k
        · subst z
          rw [ug_at, ev]
          first | (rw [if_pos (by omega)]; done) | (rw [if_neg (by omega), if_pos (by omega)]; done) | (rw [if_neg (by omega), if_neg (by omega)]; done)
        · rw [ug_np z]
          exact hi j (by omega)
      · skip
        refine k_iload_n dX12_layGets_56 rfl ?_
        refine k_iconst dX12_layGets_57 ?_
        refine k_icmp_ne 65 dX12_layGets_58 (by decide) ⟨by omega, by omega⟩ ⟨by decide, by decide⟩ (fun h58 => ?_) (fun h58 => ?_)
        · skip
          refine k_iconst dX12_layGets_65 ?_
          refine k_isub dX12_layGets_66 ?_
          refine k_iast k dX12_layGets_67 (Nat.le_of_ble_eq_true rfl) sh_a95 (by decide) (by omega) (by omega) ?_
          refine k_iinc (L' := [_, _, _, _, _]) dX12_layGets_68 rfl (Nat.le_of_ble_eq_true rfl) rfl ?_
          refine k_goto 2 dX12_layGets_71 (by decide) ?_
          refine ih _ _ _ (fun p q x => by rw [ug_nc x]; exact hg p q x) (fun j hj => ?_)
          by_cases z : j = k
          · subst z
            rw [ug_at, ev]
            first | (rw [if_pos (by omega)]; done) | (rw [if_neg (by omega), if_pos (by omega)]; done) | (rw [if_neg (by omega), if_neg (by omega)]; done)
          · rw [ug_np z]
            exact hi j (by omega)
        · skip
          refine k_iconst dX12_layGets_61 ?_
          refine k_goto 66 dX12_layGets_62 (by decide) ?_
          refine k_isub dX12_layGets_66 ?_
          refine k_iast k dX12_layGets_67 (Nat.le_of_ble_eq_true rfl) sh_a95 (by decide) (by omega) (by omega) ?_
          refine k_iinc (L' := [_, _, _, _, _]) dX12_layGets_68 rfl (Nat.le_of_ble_eq_true rfl) rfl ?_
          refine k_goto 2 dX12_layGets_71 (by decide) ?_
          refine ih _ _ _ (fun p q x => by rw [ug_nc x]; exact hg p q x) (fun j hj => ?_)
          by_cases z : j = k
          · subst z
            rw [ug_at, ev]
            first | (rw [if_pos (by omega)]; done) | (rw [if_neg (by omega), if_pos (by omega)]; done) | (rw [if_neg (by omega), if_neg (by omega)]; done)
          · rw [ug_np z]
            exact hi j (by omega)
    · skip
      refine k_iconst dX12_layGets_42 ?_
      refine k_goto 67 dX12_layGets_43 (by decide) ?_
      refine k_iast k dX12_layGets_67 (Nat.le_of_ble_eq_true rfl) sh_a95 (by decide) (by omega) (by omega) ?_
      refine k_iinc (L' := [_, _, _, _, _]) dX12_layGets_68 rfl (Nat.le_of_ble_eq_true rfl) rfl ?_
      refine k_goto 2 dX12_layGets_71 (by decide) ?_
      refine ih _ _ _ (fun p q x => by rw [ug_nc x]; exact hg p q x) (fun j hj => ?_)
      by_cases z : j = k
      · subst z
        rw [ug_at, ev]
        first | (rw [if_pos (by omega)]; done) | (rw [if_neg (by omega), if_pos (by omega)]; done) | (rw [if_neg (by omega), if_neg (by omega)]; done)
      · rw [ug_np z]
        exact hi j (by omega)
theorem m_xLayGets {V G : Mem} (hV : Vok V) (hH : HD V (vAll V) G) {a : Int} (ha : 0 ≤ a ∧ a ≤ 50) {e : Nat → Int} (he : ∀ j : Nat, j < 6 → e j = vThere V (vAll V) (a + j))  : MP M_X12_layGets [.ref 86, .int (iI a)] G (vv fun m => G5 G m ∧ (∀ j : Nat, j < 36 → m 95 j = q_get e (j / 6) (j % 6))) := by
  refine MP.of [some (.ref 86), some (.int (iI a)), none, none, none] (plainFor_of_name pn_X12) (Nat.le_of_ble_eq_true rfl) rfl ?_
  refine k_iconst dX12_layGets_0 ?_
  refine k_istore_n (L' := [_, _, _, _, _]) dX12_layGets_1 (Nat.le_of_ble_eq_true rfl) rfl ?_
  exact lp_layGets hV hH ha he 0 (by omega) G _ _ (fun _ _ _ => rfl) (fun j hj => absurd hj (by omega))
theorem lp_rests {G : Mem} {e : Nat → Int} (he : ∀ j, j < 6 → 0 ≤ e j ∧ e j ≤ 61) (hT : (∀ j : Nat, j < 36 → G 95 j = q_get e (j / 6) (j % 6))) {x y : Nat} (hx : x < 6) (hy : y < 6) : ∀ z : Nat, z ≤ 6 → RP M_X12_rests 5 [some (.ref 86), some (.int (iI (x : Int))), some (.int (iI (y : Int))), some (.int (iI (bI (q_bst e x y z = true ∧ q_bst e y x z = true)))), some (.int (iI (z : Int)))] [] G (vx (bI (q_rest e x y = true)) G) := by
  refine cnt ?_ (fun z hz ih => ?_)
  · skip
    refine k_iload dX12_rests_5 rfl ?_
    refine k_bipush dX12_rests_7 (by decide) ?_
    refine k_icmp_ge 80 dX12_rests_9 (by decide) ⟨by omega, by omega⟩ ⟨by decide, by decide⟩ (fun h9 => ?_) (fun h9 => absurd h9 (by omega))
    refine k_iload_n dX12_rests_80 rfl ?_
    exact k_zret dX12_rests_81 rfl (by unfold bI; split <;> omega) ⟨_, rfl, bI_c q_rest_iff, rfl⟩
  · have t1 := hT (6 * x + y) (by omega)
    have t2 := hT (6 * z + y) (by omega)
    have t3 := hT (6 * y + x) (by omega)
    have t4 := hT (6 * z + x) (by omega)
    rw [show (6 * x + y) / 6 = x by omega, show (6 * x + y) % 6 = y by omega] at t1
    rw [show (6 * z + y) / 6 = z by omega, show (6 * z + y) % 6 = y by omega] at t2
    rw [show (6 * y + x) / 6 = y by omega, show (6 * y + x) % 6 = x by omega] at t3
    rw [show (6 * z + x) / 6 = z by omega, show (6 * z + x) % 6 = x by omega] at t4
    have b1 := q_get_6 he (o := x) (p := y) hx
    have b2 := q_get_6 he (o := z) (p := y) (by omega)
    have b3 := q_get_6 he (o := y) (p := x) hy
    have b4 := q_get_6 he (o := z) (p := x) (by omega)
    have s1 := q_bst_s (e := e) (o := x) (p := y) (i := z)
    have s2 := q_bst_s (e := e) (o := y) (p := x) (i := z)
    refine k_iload dX12_rests_5 rfl ?_
    refine k_bipush dX12_rests_7 (by decide) ?_
    refine k_icmp_ge 80 dX12_rests_9 (by decide) ⟨by omega, by omega⟩ ⟨by decide, by decide⟩ (fun h9 => absurd h9 (by omega)) (fun h9 => ?_)
    refine k_iload_n dX12_rests_12 rfl ?_
    refine k_ifb_eq 72 dX12_rests_13 (by decide) (fun h13 => ?_) (fun h13 => ?_)
    · skip
      refine k_iconst dX12_rests_72 ?_
      refine k_istore_n (L' := [_, _, _, _, _]) dX12_rests_73 (Nat.le_of_ble_eq_true rfl) rfl ?_
      refine k_iinc (L' := [_, _, _, _, _]) dX12_rests_74 rfl (Nat.le_of_ble_eq_true rfl) rfl ?_
      refine k_goto 5 dX12_rests_77 (by decide) ?_
      first | (rw [bI_t (p := (q_bst e x y (z + 1) = true ∧ q_bst e y x (z + 1) = true)) ⟨s1.mpr ⟨h13.1, by omega⟩, s2.mpr ⟨h13.2, by omega⟩⟩] at ih; exact ih) | (rw [bI_f (p := (q_bst e x y (z + 1) = true ∧ q_bst e y x (z + 1) = true)) (fun q => by first | exact h13 ⟨(s1.mp q.1).1, (s2.mp q.2).1⟩ | (have q1 := (s1.mp q.1).2; have q2 := (s2.mp q.2).2; omega))] at ih; exact ih)
    · skip
      refine k_aload_n dX12_rests_16 rfl ?_
      refine k_getR dX12_rests_17 f_X12_39 (Nat.le_of_ble_eq_true rfl) sh_o86 (fun _ => rfl) ?_
      refine k_bipush dX12_rests_20 (by decide) ?_
      refine k_iload_n dX12_rests_22 rfl ?_
      refine k_imul dX12_rests_23 ?_
      refine k_iload_n dX12_rests_24 rfl ?_
      refine k_iadd dX12_rests_25 ?_
      refine k_iald (6 * x + y) dX12_rests_26 (Nat.le_of_ble_eq_true rfl) sh_a95 (by decide) (by omega) (by omega) ?_
      refine k_aload_n dX12_rests_27 rfl ?_
      refine k_getR dX12_rests_28 f_X12_39 (Nat.le_of_ble_eq_true rfl) sh_o86 (fun _ => rfl) ?_
      refine k_bipush dX12_rests_31 (by decide) ?_
      refine k_iload dX12_rests_33 rfl ?_
      refine k_imul dX12_rests_35 ?_
      refine k_iload_n dX12_rests_36 rfl ?_
      refine k_iadd dX12_rests_37 ?_
      refine k_iald (6 * z + y) dX12_rests_38 (Nat.le_of_ble_eq_true rfl) sh_a95 (by decide) (by omega) (by omega) ?_
      rw [t1, t2]
      refine k_icmp_lt 72 dX12_rests_39 (by decide) ⟨by omega, by omega⟩ ⟨by omega, by omega⟩ (fun h39 => ?_) (fun h39 => ?_)
      · skip
        refine k_iconst dX12_rests_72 ?_
        refine k_istore_n (L' := [_, _, _, _, _]) dX12_rests_73 (Nat.le_of_ble_eq_true rfl) rfl ?_
        refine k_iinc (L' := [_, _, _, _, _]) dX12_rests_74 rfl (Nat.le_of_ble_eq_true rfl) rfl ?_
        refine k_goto 5 dX12_rests_77 (by decide) ?_
        first | (rw [bI_t (p := (q_bst e x y (z + 1) = true ∧ q_bst e y x (z + 1) = true)) ⟨s1.mpr ⟨h13.1, by omega⟩, s2.mpr ⟨h13.2, by omega⟩⟩] at ih; exact ih) | (rw [bI_f (p := (q_bst e x y (z + 1) = true ∧ q_bst e y x (z + 1) = true)) (fun q => by first | exact h13 ⟨(s1.mp q.1).1, (s2.mp q.2).1⟩ | (have q1 := (s1.mp q.1).2; have q2 := (s2.mp q.2).2; omega))] at ih; exact ih)
      · skip
        refine k_aload_n dX12_rests_42 rfl ?_
        refine k_getR dX12_rests_43 f_X12_39 (Nat.le_of_ble_eq_true rfl) sh_o86 (fun _ => rfl) ?_
        refine k_bipush dX12_rests_46 (by decide) ?_
        refine k_iload_n dX12_rests_48 rfl ?_
        refine k_imul dX12_rests_49 ?_
        refine k_iload_n dX12_rests_50 rfl ?_
        refine k_iadd dX12_rests_51 ?_
        refine k_iald (6 * y + x) dX12_rests_52 (Nat.le_of_ble_eq_true rfl) sh_a95 (by decide) (by omega) (by omega) ?_
        refine k_aload_n dX12_rests_53 rfl ?_
        refine k_getR dX12_rests_54 f_X12_39 (Nat.le_of_ble_eq_true rfl) sh_o86 (fun _ => rfl) ?_
        refine k_bipush dX12_rests_57 (by decide) ?_
        refine k_iload dX12_rests_59 rfl ?_
        refine k_imul dX12_rests_61 ?_
        refine k_iload_n dX12_rests_62 rfl ?_
        refine k_iadd dX12_rests_63 ?_
        refine k_iald (6 * z + x) dX12_rests_64 (Nat.le_of_ble_eq_true rfl) sh_a95 (by decide) (by omega) (by omega) ?_
        rw [t3, t4]
        refine k_icmp_lt 72 dX12_rests_65 (by decide) ⟨by omega, by omega⟩ ⟨by omega, by omega⟩ (fun h65 => ?_) (fun h65 => ?_)
        · skip
          refine k_iconst dX12_rests_72 ?_
          refine k_istore_n (L' := [_, _, _, _, _]) dX12_rests_73 (Nat.le_of_ble_eq_true rfl) rfl ?_
          refine k_iinc (L' := [_, _, _, _, _]) dX12_rests_74 rfl (Nat.le_of_ble_eq_true rfl) rfl ?_
          refine k_goto 5 dX12_rests_77 (by decide) ?_
          first | (rw [bI_t (p := (q_bst e x y (z + 1) = true ∧ q_bst e y x (z + 1) = true)) ⟨s1.mpr ⟨h13.1, by omega⟩, s2.mpr ⟨h13.2, by omega⟩⟩] at ih; exact ih) | (rw [bI_f (p := (q_bst e x y (z + 1) = true ∧ q_bst e y x (z + 1) = true)) (fun q => by first | exact h13 ⟨(s1.mp q.1).1, (s2.mp q.2).1⟩ | (have q1 := (s1.mp q.1).2; have q2 := (s2.mp q.2).2; omega))] at ih; exact ih)
        · skip
          refine k_iconst dX12_rests_68 ?_
          refine k_goto 73 dX12_rests_69 (by decide) ?_
          refine k_istore_n (L' := [_, _, _, _, _]) dX12_rests_73 (Nat.le_of_ble_eq_true rfl) rfl ?_
          refine k_iinc (L' := [_, _, _, _, _]) dX12_rests_74 rfl (Nat.le_of_ble_eq_true rfl) rfl ?_
          refine k_goto 5 dX12_rests_77 (by decide) ?_
          first | (rw [bI_t (p := (q_bst e x y (z + 1) = true ∧ q_bst e y x (z + 1) = true)) ⟨s1.mpr ⟨h13.1, by omega⟩, s2.mpr ⟨h13.2, by omega⟩⟩] at ih; exact ih) | (rw [bI_f (p := (q_bst e x y (z + 1) = true ∧ q_bst e y x (z + 1) = true)) (fun q => by first | exact h13 ⟨(s1.mp q.1).1, (s2.mp q.2).1⟩ | (have q1 := (s1.mp q.1).2; have q2 := (s2.mp q.2).2; omega))] at ih; exact ih)
theorem m_xRests {G : Mem} {e : Nat → Int} (he : ∀ j, j < 6 → 0 ≤ e j ∧ e j ≤ 61) (hT : (∀ j : Nat, j < 36 → G 95 j = q_get e (j / 6) (j % 6))) {x y : Nat} (hx : x < 6) (hy : y < 6) : MP M_X12_rests [.ref 86, .int (iI (x : Int)), .int (iI (y : Int))] G (vx (bI (q_rest e x y = true)) G) := by
  refine MP.of [some (.ref 86), some (.int (iI (x : Int))), some (.int (iI (y : Int))), none, none] (plainFor_of_name pn_X12) (Nat.le_of_ble_eq_true rfl) rfl ?_
  refine k_iconst dX12_rests_0 ?_
  refine k_istore_n (L' := [_, _, _, _, _]) dX12_rests_1 (Nat.le_of_ble_eq_true rfl) rfl ?_
  refine k_iconst dX12_rests_2 ?_
  refine k_istore (L' := [_, _, _, _, _]) dX12_rests_3 (Nat.le_of_ble_eq_true rfl) rfl ?_
  exact lp_rests he hT hx hy 0 (by omega)
theorem lp_carters {G : Mem} {e : Nat → Int} (he : ∀ j, j < 6 → 0 ≤ e j ∧ e j ≤ 61) (hT : (∀ j : Nat, j < 36 → G 95 j = q_get e (j / 6) (j % 6))) {a w : Int} (hw : 0 ≤ w ∧ w ≤ 1) : ∀ k : Nat, k ≤ 36 → RP M_X12_carters 50 [some (.ref 86), some (.int (iI a)), some (.int (iI w)), some (.int (iI (q_cnt e k))), some (.int (iI (q_fst e k))), some (.int (iI (k : Int)))] [] G (vx (if w = 0 then q_cnt e 36 else q_fst e 36) G) := by
  refine cnt ?_ (fun k hk ih => ?_)
  · skip
    refine k_iload dX12_carters_50 rfl ?_
    refine k_bipush dX12_carters_52 (by decide) ?_
    refine k_icmp_ge 108 dX12_carters_54 (by decide) ⟨by omega, by omega⟩ ⟨by decide, by decide⟩ (fun h54 => ?_) (fun h54 => absurd h54 (by omega))
    refine k_iload_n dX12_carters_108 rfl ?_
    refine k_if_ne 116 dX12_carters_109 (by decide) ⟨by omega, by omega⟩ (fun h109 => ?_) (fun h109 => ?_)
    · skip
      refine k_iload dX12_carters_116 rfl ?_
      exact k_iret dX12_carters_118 rfl ⟨_, rfl, by first | exact if_pos (by omega) | exact if_neg (by omega), rfl⟩
    · skip
      refine k_iload_n dX12_carters_112 rfl ?_
      refine k_goto 118 dX12_carters_113 (by decide) ?_
      exact k_iret dX12_carters_118 rfl ⟨_, rfl, by first | exact if_pos (by omega) | exact if_neg (by omega), rfl⟩
  · have bc := q_cnt_b (e := e) k
    have ec : q_cnt e (k + 1) = if q_rest e (k / 6) (k % 6) = true then q_cnt e k + 1 else q_cnt e k := rfl
    have ef : q_fst e (k + 1) = if q_rest e (k / 6) (k % 6) = true ∧ q_cnt e k = 0 then 10 * ((k / 6 : Nat) : Int) + ((k % 6 : Nat) : Int) else q_fst e k := rfl
    rw [ec, ef] at ih
    refine k_iload dX12_carters_50 rfl ?_
    refine k_bipush dX12_carters_52 (by decide) ?_
    refine k_icmp_ge 108 dX12_carters_54 (by decide) ⟨by omega, by omega⟩ ⟨by decide, by decide⟩ (fun h54 => absurd h54 (by omega)) (fun h54 => ?_)
    refine k_aload_n dX12_carters_57 rfl ?_
    refine k_iload dX12_carters_58 rfl ?_
    refine k_bipush dX12_carters_60 (by decide) ?_
    refine k_idiv dX12_carters_62 (by omega) (by omega) ?_
    refine k_iload dX12_carters_63 rfl ?_
    refine k_bipush dX12_carters_65 (by decide) ?_
    refine k_irem dX12_carters_67 (by omega) (by omega) ?_
    rw [show (k : Int) / 6 = ((k / 6 : Nat) : Int) by omega, show (k : Int) % 6 = ((k % 6 : Nat) : Int) by omega]
    refine k_callVi [.int (iI _), .int (iI _)] dX12_carters_68 s_X12_carters_192 rfl (m_xRests he hT (by omega) (by omega)) rfl (Nat.le_of_ble_eq_true rfl) sh_o86 ⟨_, rfl, rfl⟩ (Nat.le_of_ble_eq_true rfl) ?_
    rintro _ _ ⟨rfl, rfl⟩
    refine k_ifb_eq 102 dX12_carters_71 (by decide) (fun h71 => ?_) (fun h71 => ?_)
    · skip
      refine k_iinc (L' := [_, _, _, _, _, _]) dX12_carters_102 rfl (Nat.le_of_ble_eq_true rfl) rfl ?_
      refine k_goto 50 dX12_carters_105 (by decide) ?_
      first | (rw [if_pos h71, if_pos ⟨h71, by omega⟩] at ih; rw [show (k : Int) / 6 * 10 + (k : Int) % 6 = 10 * ((k / 6 : Nat) : Int) + ((k % 6 : Nat) : Int) by omega]; exact ih) | (rw [if_pos h71, if_neg (fun q => by omega)] at ih; exact ih) | (rw [if_neg h71, if_neg (fun q => h71 q.1)] at ih; exact ih)
    · skip
      refine k_iload_n dX12_carters_74 rfl ?_
      refine k_if_ne 95 dX12_carters_75 (by decide) ⟨by omega, by omega⟩ (fun h75 => ?_) (fun h75 => ?_)
      · skip
        refine k_iload dX12_carters_95 rfl ?_
        refine k_istore (L' := [_, _, _, _, _, _]) dX12_carters_97 (Nat.le_of_ble_eq_true rfl) rfl ?_
        refine k_iinc (L' := [_, _, _, _, _, _]) dX12_carters_99 rfl (Nat.le_of_ble_eq_true rfl) rfl ?_
        refine k_iinc (L' := [_, _, _, _, _, _]) dX12_carters_102 rfl (Nat.le_of_ble_eq_true rfl) rfl ?_
        refine k_goto 50 dX12_carters_105 (by decide) ?_
        first | (rw [if_pos h71, if_pos ⟨h71, by omega⟩] at ih; rw [show (k : Int) / 6 * 10 + (k : Int) % 6 = 10 * ((k / 6 : Nat) : Int) + ((k % 6 : Nat) : Int) by omega]; exact ih) | (rw [if_pos h71, if_neg (fun q => by omega)] at ih; exact ih) | (rw [if_neg h71, if_neg (fun q => h71 q.1)] at ih; exact ih)
      · skip
        refine k_iload dX12_carters_78 rfl ?_
        refine k_bipush dX12_carters_80 (by decide) ?_
        refine k_idiv dX12_carters_82 (by omega) (by omega) ?_
        refine k_bipush dX12_carters_83 (by decide) ?_
        refine k_imul dX12_carters_85 ?_
        refine k_iload dX12_carters_86 rfl ?_
        refine k_bipush dX12_carters_88 (by decide) ?_
        refine k_irem dX12_carters_90 (by omega) (by omega) ?_
        refine k_iadd dX12_carters_91 ?_
        refine k_goto 97 dX12_carters_92 (by decide) ?_
        refine k_istore (L' := [_, _, _, _, _, _]) dX12_carters_97 (Nat.le_of_ble_eq_true rfl) rfl ?_
        refine k_iinc (L' := [_, _, _, _, _, _]) dX12_carters_99 rfl (Nat.le_of_ble_eq_true rfl) rfl ?_
        refine k_iinc (L' := [_, _, _, _, _, _]) dX12_carters_102 rfl (Nat.le_of_ble_eq_true rfl) rfl ?_
        refine k_goto 50 dX12_carters_105 (by decide) ?_
        first | (rw [if_pos h71, if_pos ⟨h71, by omega⟩] at ih; rw [show (k : Int) / 6 * 10 + (k : Int) % 6 = 10 * ((k / 6 : Nat) : Int) + ((k % 6 : Nat) : Int) by omega]; exact ih) | (rw [if_pos h71, if_neg (fun q => by omega)] at ih; exact ih) | (rw [if_neg h71, if_neg (fun q => h71 q.1)] at ih; exact ih)
theorem m_xCarters {V G : Mem} (hV : Vok V) (hN : NW V G) {a w : Int} (ha : R32 a) (hw : R32 w) {e : Nat → Int} (he : ∀ j : Nat, j < 6 → e j = vThere V (vAll V) (a + j)) : MP M_X12_carters [.ref 86, .int (iI a), .int (iI w)] G (vi fun v g => if (0 ≤ a ∧ a ≤ 50) ∧ (0 ≤ w ∧ w ≤ 1) then ((if w = 0 then q_cnt e 36 else q_fst e 36) = v ∧ SC G g) else (-10 = v ∧ xB G = g)) := by
  have h0 := hN.1.1
  have hn := hV.2.2.1
  have hset := vAll_lt hV
  refine MP.of [some (.ref 86), some (.int (iI a)), some (.int (iI w)), none, none, none] (plainFor_of_name pn_X12) (Nat.le_of_ble_eq_true rfl) rfl ?_
  refine k_iload_n dX12_carters_0 rfl ?_
  refine k_i2l dX12_carters_1 ⟨by omega, by omega⟩ ?_
  refine k_lconst dX12_carters_2 ?_
  refine k_ldc2 50 dX12_carters_3 w_1098 ?_
  refine k_callSi [.long (lI _), .long (lI _), .long (lI _)] dX12_carters_6 s_X12_carters_65 rfl (m_xIn (by first | assumption | exact ⟨by omega, by omega⟩) (by first | assumption | exact ⟨by omega, by omega⟩) (by first | assumption | exact ⟨by omega, by omega⟩)) rfl (Nat.le_of_ble_eq_true rfl) ?_
  rintro _ _ ⟨rfl, rfl⟩
  refine k_ifb_eq 22 dX12_carters_9 (by decide) (fun h9 => ?_) (fun h9 => ?_)
  · skip
    refine k_aload_n dX12_carters_22 rfl ?_
    refine k_bipush dX12_carters_23 (by decide) ?_
    refine k_callVi [.int (iI _)] dX12_carters_25 s_X12_carters_75 rfl m_xBad rfl (Nat.le_of_ble_eq_true rfl) sh_o86 ⟨_, rfl, rfl⟩ (Nat.le_of_ble_eq_true rfl) ?_
    rintro _ _ ⟨rfl, rfl⟩
    exact k_iret dX12_carters_28 rfl ⟨_, rfl, by (try dsimp only); first | (rw [if_neg (by omega)]; exact ⟨rfl, rfl⟩)⟩
  · skip
    refine k_iload_n dX12_carters_12 rfl ?_
    refine k_i2l dX12_carters_13 ⟨by omega, by omega⟩ ?_
    refine k_lconst dX12_carters_14 ?_
    refine k_lconst dX12_carters_15 ?_
    refine k_callSi [.long (lI _), .long (lI _), .long (lI _)] dX12_carters_16 s_X12_carters_65 rfl (m_xIn (by first | assumption | exact ⟨by omega, by omega⟩) (by first | assumption | exact ⟨by omega, by omega⟩) (by first | assumption | exact ⟨by omega, by omega⟩)) rfl (Nat.le_of_ble_eq_true rfl) ?_
    rintro _ _ ⟨rfl, rfl⟩
    refine k_ifb_ne 29 dX12_carters_19 (by decide) (fun h19 => ?_) (fun h19 => ?_)
    · skip
      refine k_aload_n dX12_carters_29 rfl ?_
      refine k_aload_n dX12_carters_30 rfl ?_
      refine k_callVi [] dX12_carters_31 s_X12_carters_152 rfl (NW.all hN hV) rfl (Nat.le_of_ble_eq_true rfl) sh_o86 ⟨_, rfl, rfl⟩ (Nat.le_of_ble_eq_true rfl) ?_
      rintro _ _ ⟨rfl, rfl⟩
      refine k_callVv [.int (iI _)] dX12_carters_34 s_X12_carters_155 rfl (m_xLayHand hV hN) rfl (Nat.le_of_ble_eq_true rfl) sh_o86 ⟨_, rfl, rfl⟩ (Nat.le_of_ble_eq_true rfl) ?_
      rintro g1 ⟨hF, hH⟩
      refine k_aload_n dX12_carters_37 rfl ?_
      refine k_iload_n dX12_carters_38 rfl ?_
      refine k_callVv [.int (iI _)] dX12_carters_39 s_X12_carters_189 rfl (m_xLayGets hV hH (by omega) he) rfl (Nat.le_of_ble_eq_true rfl) sh_o86 ⟨_, rfl, rfl⟩ (Nat.le_of_ble_eq_true rfl) ?_
      rintro g2 ⟨h5, hT⟩
      refine k_iconst dX12_carters_42 ?_
      refine k_istore_n (L' := [_, _, _, _, _, _]) dX12_carters_43 (Nat.le_of_ble_eq_true rfl) rfl ?_
      refine k_iconst dX12_carters_44 ?_
      refine k_istore (L' := [_, _, _, _, _, _]) dX12_carters_45 (Nat.le_of_ble_eq_true rfl) rfl ?_
      refine k_iconst dX12_carters_47 ?_
      refine k_istore (L' := [_, _, _, _, _, _]) dX12_carters_48 (Nat.le_of_ble_eq_true rfl) rfl ?_
      refine (lp_carters (e := e) (fun j hj => by rw [he j hj]; exact vThere_b (by omega)) hT (by omega) 0 (by omega)).mono ?_
      rintro o k ⟨v, h1, h2, h6⟩
      exact ⟨v, h1, by dsimp only; rw [if_pos (by omega)]; exact ⟨h2, h6 ▸ hF.sc.tr h5.sc⟩⟩
    · skip
      refine k_aload_n dX12_carters_22 rfl ?_
      refine k_bipush dX12_carters_23 (by decide) ?_
      refine k_callVi [.int (iI _)] dX12_carters_25 s_X12_carters_75 rfl m_xBad rfl (Nat.le_of_ble_eq_true rfl) sh_o86 ⟨_, rfl, rfl⟩ (Nat.le_of_ble_eq_true rfl) ?_
      rintro _ _ ⟨rfl, rfl⟩
      exact k_iret dX12_carters_28 rfl ⟨_, rfl, by (try dsimp only); first | (rw [if_neg (by omega)]; exact ⟨rfl, rfl⟩)⟩
