/-! ===== the Model: limits that were seen ===== -/
/-- now's readings -/
def RD (V G : Mem) : Prop := G 87 4 = V 0 10 ∧ ∀ i : Nat, (i : Int) < V 0 10 → G 87 (56 + 3 * i) = V 7 i ∧ G 87 (56 + 3 * i + 1) = V 8 i ∧ G 87 (56 + 3 * i + 2) = V 9 i
theorem RD.sc {V G g : Mem} (h : RD V G) (k : SC G g) : RD V g := by
  have e : ∀ b, g 87 b = G 87 b := fun b => k 87 b (by decide) (by omega)
  unfold RD
  simp only [e]
  exact h
theorem vRead_s {V : Mem} {set i : Nat} : vRead V set (i + 1) = true ↔ vRead V set i = true ∧ vLim V (V 8 i) set (V 7 i) = V 9 i := by
  show (vRead V set i && (vLim V (V 8 i) set (V 7 i) == V 9 i)) = true ↔ _
  rw [Bool.and_eq_true, beq_iff_eq]
theorem vRead_m {V : Mem} {set : Nat} : ∀ i j, i ≤ j → vRead V set j = true → vRead V set i = true
  | i, 0, h, k => by rw [show i = 0 by omega]; exact k
  | i, j + 1, h, k => by
    by_cases q : i = j + 1
    · rw [q]; exact k
    · exact vRead_m i j (by omega) (vRead_s.mp k).1
theorem tb_iff {F s : Nat} : F / 2 ^ s % 2 = 1 ↔ F.testBit s = true := by
  rw [Nat.testBit_eq_decide_div_mod_eq, decide_eq_true_iff]
theorem vFit_tb {V : Mem} : ∀ m s : Nat, (vFit V m).testBit s = true ↔ s < m ∧ vReadA V s = true
  | 0, s => by
    show Nat.testBit 0 s = true ↔ _
    rw [Nat.zero_testBit]
    constructor
    · intro h; cases h
    · intro h; exact absurd h.1 (by omega)
  | m + 1, s => by
    have ih := vFit_tb (V := V) m s
    have e : vFit V (m + 1) = if vReadA V m = true then vFit V m ||| 2 ^ m else vFit V m := rfl
    rw [e]
    by_cases h : vReadA V m = true
    · rw [if_pos h, Nat.testBit_or, Bool.or_eq_true, ih, Nat.testBit_two_pow, decide_eq_true_iff]
      constructor
      · rintro (q | q)
        · exact ⟨by omega, q.2⟩
        · subst q; exact ⟨by omega, h⟩
      · intro q
        by_cases z : m = s
        · exact Or.inr z
        · exact Or.inl ⟨by omega, q.2⟩
    · rw [if_neg h, ih]
      constructor
      · intro q; exact ⟨by omega, q.2⟩
      · intro q
        refine ⟨?_, q.2⟩
        by_cases z : s = m
        · subst z; exact absurd q.2 h
        · omega
theorem vFitA_i {V : Mem} {s : Nat} (h : s ≤ vAll V) : vFitA V / 2 ^ s % 2 = 1 ↔ vReadA V s = true := by
  rw [tb_iff, vFit_tb]
  constructor
  · intro q; exact q.2
  · intro q; exact ⟨by omega, q⟩
theorem q_p64_hi {F m : Nat} (hF : F < 2 ^ m) : ∀ k, m ≤ k → q_p64 F k = q_p64 F m
  | 0, h => by rw [show m = 0 by omega]
  | k + 1, h => by
    by_cases z : m = k + 1
    · rw [z]
    · have hk : F < 2 ^ k := Nat.lt_of_lt_of_le hF (Nat.pow_le_pow_right (by decide) (by omega))
      show q_p64 F k + F / 2 ^ k % 2 = _
      rw [q_p64_hi hF k (by omega), Nat.div_eq_of_lt hk, Nat.zero_mod, Nat.add_zero]
theorem q_p64_0 {F : Nat} : ∀ m, q_p64 F m = 0 → F % 2 ^ m = 0
  | 0, _ => by rw [Nat.pow_zero, Nat.mod_one]
  | m + 1, h => by
    have h1 : q_p64 F m + F / 2 ^ m % 2 = 0 := h
    have h2 := q_p64_0 (F := F) m (by omega)
    rw [Nat.pow_succ, Nat.mod_mul, h2, show F / 2 ^ m % 2 = 0 by omega, Nat.mul_zero]
theorem vFitA_n {V : Mem} (hV : Vok V) : q_p64 (vFitA V) 64 = q_p64 (vFitA V) (vAll V + 1) := q_p64_hi (vFit_lt _) 64 (by have := vAll_lt hV; omega)
theorem vFitA_z {V : Mem} : q_p64 (vFitA V) (vAll V + 1) = 0 ↔ vFitA V = 0 := by
  constructor
  · intro h
    have k := q_p64_0 _ h
    rw [Nat.mod_eq_of_lt (vFit_lt _)] at k
    exact k
  · intro h
    rw [h]
    have : ∀ m, q_p64 0 m = 0 := fun m => by
      induction m with
      | zero => rfl
      | succ m ih => show q_p64 0 m + 0 / 2 ^ m % 2 = 0; rw [ih, Nat.zero_div]
    exact this _
theorem lp_areSo {V G : Mem} {set : Nat} (hV : Vok V) (hD : Dok V) (hset : set < 64) (hH : HD V set G) (hR : RD V G)  : ∀ i : Nat, i ≤ (V 0 10).toNat → ∀ j3 : Option Value, RP M_X12_areSo 4 [some (.ref 86), some (.int (iI (bI (vRead V set i = true)))), some (.int (iI (i : Int))), j3] [] G (vx (bI (vReadA V set = true)) G) := by
  have hd := hD.1
  have h4 := hR.1
  refine cnt (fun j3 => ?_) (fun i hi ih j3 => ?_)
  · skip
    refine k_iload_n dX12_areSo_4 rfl ?_
    refine k_aload_n dX12_areSo_5 rfl ?_
    refine k_getR dX12_areSo_6 f_X12_7 (Nat.le_of_ble_eq_true rfl) sh_o86 (fun _ => rfl) ?_
    refine k_iconst dX12_areSo_9 ?_
    refine k_iald 4 dX12_areSo_10 (Nat.le_of_ble_eq_true rfl) sh_a87 (by decide) (by omega) (by omega) ?_
    refine k_icmp_ge 66 dX12_areSo_11 (by decide) ⟨by omega, by omega⟩ ⟨by omega, by omega⟩ (fun h11 => ?_) (fun h11 => absurd h11 (by omega))
    refine k_iload_n dX12_areSo_66 rfl ?_
    exact k_zret dX12_areSo_67 rfl (by unfold bI; split <;> omega) ⟨_, rfl, rfl, rfl⟩
  · have hr := hR.2 i (by omega)
    have hd2 := hD.2 i
    have bl := vLim_b hV (t := V 8 i) (by omega) set (V 7 i)
    have s1 := vRead_s (V := V) (set := set) (i := i)
    refine k_iload_n dX12_areSo_4 rfl ?_
    refine k_aload_n dX12_areSo_5 rfl ?_
    refine k_getR dX12_areSo_6 f_X12_7 (Nat.le_of_ble_eq_true rfl) sh_o86 (fun _ => rfl) ?_
    refine k_iconst dX12_areSo_9 ?_
    refine k_iald 4 dX12_areSo_10 (Nat.le_of_ble_eq_true rfl) sh_a87 (by decide) (by omega) (by omega) ?_
    refine k_icmp_ge 66 dX12_areSo_11 (by decide) ⟨by omega, by omega⟩ ⟨by omega, by omega⟩ (fun h11 => absurd h11 (by omega)) (fun h11 => ?_)
    refine k_iload_n dX12_areSo_14 rfl ?_
    refine k_ifb_eq 66 dX12_areSo_15 (by decide) (fun h15 => ?_) (fun h15 => ?_)
    · skip
      refine k_iload_n dX12_areSo_66 rfl ?_
      exact k_zret dX12_areSo_67 rfl (by unfold bI; split <;> omega) ⟨_, rfl, by rw [bI_f h15]; exact bI_f (fun q => h15 (vRead_m i _ (by omega) q)), rfl⟩
    · skip
      refine k_bipush dX12_areSo_18 (by decide) ?_
      refine k_iconst dX12_areSo_20 ?_
      refine k_iload_n dX12_areSo_21 rfl ?_
      refine k_imul dX12_areSo_22 ?_
      refine k_iadd dX12_areSo_23 ?_
      refine k_istore_n (L' := [_, _, _, _]) dX12_areSo_24 (Nat.le_of_ble_eq_true rfl) rfl ?_
      refine k_aload_n dX12_areSo_25 rfl ?_
      refine k_aload_n dX12_areSo_26 rfl ?_
      refine k_getR dX12_areSo_27 f_X12_7 (Nat.le_of_ble_eq_true rfl) sh_o86 (fun _ => rfl) ?_
      refine k_iload_n dX12_areSo_30 rfl ?_
      refine k_iald (56 + 3 * i) dX12_areSo_31 (Nat.le_of_ble_eq_true rfl) sh_a87 (by decide) (by omega) (by omega) ?_
      refine k_aload_n dX12_areSo_32 rfl ?_
      refine k_getR dX12_areSo_33 f_X12_7 (Nat.le_of_ble_eq_true rfl) sh_o86 (fun _ => rfl) ?_
      refine k_iload_n dX12_areSo_36 rfl ?_
      refine k_iconst dX12_areSo_37 ?_
      refine k_iadd dX12_areSo_38 ?_
      refine k_iald (56 + 3 * i + 1) dX12_areSo_39 (Nat.le_of_ble_eq_true rfl) sh_a87 (by decide) (by omega) (by omega) ?_
      rw [hr.1, hr.2.1]
      refine k_callVi [.int (iI _), .int (iI _)] dX12_areSo_40 s_X12_areSo_159 rfl (m_xLimitAt hV hset hH (by omega) (by omega)) rfl (Nat.le_of_ble_eq_true rfl) sh_o86 ⟨_, rfl, rfl⟩ (Nat.le_of_ble_eq_true rfl) ?_
      rintro _ _ ⟨rfl, rfl⟩
      refine k_aload_n dX12_areSo_43 rfl ?_
      refine k_getR dX12_areSo_44 f_X12_7 (Nat.le_of_ble_eq_true rfl) sh_o86 (fun _ => rfl) ?_
      refine k_iload_n dX12_areSo_47 rfl ?_
      refine k_iconst dX12_areSo_48 ?_
      refine k_iadd dX12_areSo_49 ?_
      refine k_iald (56 + 3 * i + 2) dX12_areSo_50 (Nat.le_of_ble_eq_true rfl) sh_a87 (by decide) (by omega) (by omega) ?_
      rw [hr.2.2]
      refine k_icmp_ne 58 dX12_areSo_51 (by decide) ⟨by omega, by omega⟩ ⟨by omega, by omega⟩ (fun h51 => ?_) (fun h51 => ?_)
      · skip
        refine k_iconst dX12_areSo_58 ?_
        refine k_istore_n (L' := [_, _, _, _]) dX12_areSo_59 (Nat.le_of_ble_eq_true rfl) rfl ?_
        refine k_iinc (L' := [_, _, _, _]) dX12_areSo_60 rfl (Nat.le_of_ble_eq_true rfl) rfl ?_
        refine k_goto 4 dX12_areSo_63 (by decide) ?_
        first | (rw [bI_t (s1.mpr ⟨h15, by omega⟩)] at ih; exact ih _) | (rw [bI_f (p := vRead V set (i + 1) = true) (fun q => by have := (s1.mp q).2; omega)] at ih; exact ih _)
      · skip
        refine k_iconst dX12_areSo_54 ?_
        refine k_goto 59 dX12_areSo_55 (by decide) ?_
        refine k_istore_n (L' := [_, _, _, _]) dX12_areSo_59 (Nat.le_of_ble_eq_true rfl) rfl ?_
        refine k_iinc (L' := [_, _, _, _]) dX12_areSo_60 rfl (Nat.le_of_ble_eq_true rfl) rfl ?_
        refine k_goto 4 dX12_areSo_63 (by decide) ?_
        first | (rw [bI_t (s1.mpr ⟨h15, by omega⟩)] at ih; exact ih _) | (rw [bI_f (p := vRead V set (i + 1) = true) (fun q => by have := (s1.mp q).2; omega)] at ih; exact ih _)
theorem m_xAreSo {V G : Mem} {set : Nat} (hV : Vok V) (hD : Dok V) (hset : set < 64) (hH : HD V set G) (hR : RD V G)  : MP M_X12_areSo [.ref 86] G (vx (bI (vReadA V set = true)) G) := by
  refine MP.of [some (.ref 86), none, none, none] (plainFor_of_name pn_X12) (Nat.le_of_ble_eq_true rfl) rfl ?_
  refine k_iconst dX12_areSo_0 ?_
  refine k_istore_n (L' := [_, _, _, _]) dX12_areSo_1 (Nat.le_of_ble_eq_true rfl) rfl ?_
  refine k_iconst dX12_areSo_2 ?_
  refine k_istore_n (L' := [_, _, _, _]) dX12_areSo_3 (Nat.le_of_ble_eq_true rfl) rfl ?_
  exact lp_areSo hV hD hset hH hR 0 (by omega) _
theorem lp_out {V G : Mem} (hV : Vok V) (hD : Dok V) (hN : NW V G) (hR : RD V G) {w : Int} (hw : 0 ≤ w ∧ w ≤ 1) : ∀ s : Nat, s ≤ vAll V + 1 → ∀ (g : Mem) (j5 : Option Value), SC G g → RP M_X12_out 27 [some (.ref 86), some (.int (iI w)), some (.int (iI ((q_p64 (vFitA V) s : Nat) : Int))), some (.int (iI ((vIn V (vFitA V) s : Nat) : Int))), some (.int (iI (s : Int))), j5] [] g (vi fun v k => (if w = 0 then ((q_p64 (vFitA V) 64 : Nat) : Int) else vInA V (vFitA V)) = v ∧ SC G k) := by
  have hset := vAll_lt hV
  refine cnt (fun g j5 hg => ?_) (fun s hs ih g j5 hg => ?_)
  · have e1 := vFitA_n hV
    have e2 := vFitA_z (V := V)
    have e3 := q_p64_b (vFitA V) (vAll V + 1)
    have e4 := vIn_lt hV (F := vFitA V) (vAll V + 1)
    refine k_iload dX12_out_27 rfl ?_
    refine k_aload_n dX12_out_29 rfl ?_
    refine k_callVi [] dX12_out_30 s_X12_out_152 rfl (NW.all (hN.sc hg) hV) rfl (Nat.le_of_ble_eq_true rfl) sh_o86 ⟨_, rfl, rfl⟩ (Nat.le_of_ble_eq_true rfl) ?_
    rintro _ _ ⟨rfl, rfl⟩
    refine k_icmp_gt 81 dX12_out_33 (by decide) ⟨by omega, by omega⟩ ⟨by omega, by omega⟩ (fun h33 => ?_) (fun h33 => absurd h33 (by omega))
    refine k_iload_n dX12_out_81 rfl ?_
    refine k_if_ne 89 dX12_out_82 (by decide) ⟨by omega, by omega⟩ (fun h82 => ?_) (fun h82 => ?_)
    · skip
      refine k_iload_n dX12_out_89 rfl ?_
      refine k_if_ne 97 dX12_out_90 (by decide) ⟨by omega, by omega⟩ (fun h90 => ?_) (fun h90 => ?_)
      · skip
        refine k_iload_n dX12_out_97 rfl ?_
        exact k_iret dX12_out_98 rfl ⟨_, rfl, by first | (rw [if_pos (by omega), e1]; done) | (rw [if_neg (by omega)]; unfold vInA; first | exact if_pos (e2.mp (by omega)) | exact if_neg (fun q => by have := e2.mpr q; omega)), hg⟩
      · skip
        refine k_iconst dX12_out_93 ?_
        refine k_goto 98 dX12_out_94 (by decide) ?_
        exact k_iret dX12_out_98 rfl ⟨_, rfl, by first | (rw [if_pos (by omega), e1]; done) | (rw [if_neg (by omega)]; unfold vInA; first | exact if_pos (e2.mp (by omega)) | exact if_neg (fun q => by have := e2.mpr q; omega)), hg⟩
    · skip
      refine k_iload_n dX12_out_85 rfl ?_
      refine k_goto 98 dX12_out_86 (by decide) ?_
      exact k_iret dX12_out_98 rfl ⟨_, rfl, by first | (rw [if_pos (by omega), e1]; done) | (rw [if_neg (by omega)]; unfold vInA; first | exact if_pos (e2.mp (by omega)) | exact if_neg (fun q => by have := e2.mpr q; omega)), hg⟩
  · have e1 : q_p64 (vFitA V) (s + 1) = q_p64 (vFitA V) s + (vFitA V) / 2 ^ s % 2 := rfl
    have e2 : vIn V (vFitA V) (s + 1) = if (vFitA V) / 2 ^ s % 2 = 1 then vIn V (vFitA V) s &&& s else vIn V (vFitA V) s := rfl
    have e3 := q_p64_b (vFitA V) s
    have e4 := vFitA_i (V := V) (s := s) (by omega)
    refine k_iload dX12_out_27 rfl ?_
    refine k_aload_n dX12_out_29 rfl ?_
    refine k_callVi [] dX12_out_30 s_X12_out_152 rfl (NW.all (hN.sc hg) hV) rfl (Nat.le_of_ble_eq_true rfl) sh_o86 ⟨_, rfl, rfl⟩ (Nat.le_of_ble_eq_true rfl) ?_
    rintro _ _ ⟨rfl, rfl⟩
    refine k_icmp_gt 81 dX12_out_33 (by decide) ⟨by omega, by omega⟩ ⟨by omega, by omega⟩ (fun h33 => absurd h33 (by omega)) (fun h33 => ?_)
    refine k_aload_n dX12_out_36 rfl ?_
    refine k_iload dX12_out_37 rfl ?_
    refine k_callVv [.int (iI _)] dX12_out_39 s_X12_out_155 rfl (m_xLayHand hV (hN.sc hg)) rfl (Nat.le_of_ble_eq_true rfl) sh_o86 ⟨_, rfl, rfl⟩ (Nat.le_of_ble_eq_true rfl) ?_
    rintro g1 ⟨hF, hH⟩
    refine k_aload_n dX12_out_42 rfl ?_
    refine k_callVi [] dX12_out_43 s_X12_out_195 rfl (m_xAreSo hV hD (by omega) hH ((hR.sc hg).sc hF.sc)) rfl (Nat.le_of_ble_eq_true rfl) sh_o86 ⟨_, rfl, rfl⟩ (Nat.le_of_ble_eq_true rfl) ?_
    rintro _ _ ⟨rfl, rfl⟩
    refine k_istore (L' := [_, _, _, _, _, _]) dX12_out_46 (Nat.le_of_ble_eq_true rfl) rfl ?_
    refine k_iload_n dX12_out_48 rfl ?_
    refine k_iload dX12_out_49 rfl ?_
    refine k_ifb_eq 58 dX12_out_51 (by decide) (fun h51 => ?_) (fun h51 => ?_)
    · skip
      refine k_iconst dX12_out_58 ?_
      refine k_iadd dX12_out_59 ?_
      refine k_istore_n (L' := [_, _, _, _, _, _]) dX12_out_60 (Nat.le_of_ble_eq_true rfl) rfl ?_
      refine k_iload_n dX12_out_61 rfl ?_
      refine k_iload dX12_out_62 rfl ?_
      refine k_ifb_eq 72 dX12_out_64 (by decide) (fun h64 => ?_) (fun h64 => ?_)
      · skip
        refine k_iconst dX12_out_72 ?_
        refine k_iandm dX12_out_73 ?_
        refine k_istore_n (L' := [_, _, _, _, _, _]) dX12_out_74 (Nat.le_of_ble_eq_true rfl) rfl ?_
        refine k_iinc (L' := [_, _, _, _, _, _]) dX12_out_75 rfl (Nat.le_of_ble_eq_true rfl) rfl ?_
        refine k_goto 27 dX12_out_78 (by decide) ?_
        first | (rw [e1, e2, if_pos (e4.mpr h51), e4.mpr h51] at ih; exact ih _ _ (hg.tr hF.sc)) | (rw [e1, e2, if_neg (fun q => h51 (e4.mp q)), show vFitA V / 2 ^ s % 2 = 0 by (have := mt e4.mp h51); omega, Nat.add_zero] at ih; rw [Int.add_zero]; exact ih _ _ (hg.tr hF.sc)) | (first | exact absurd h51 h64 | exact absurd h64 h51)
      · skip
        refine k_iload dX12_out_67 rfl ?_
        refine k_goto 73 dX12_out_69 (by decide) ?_
        refine k_iand _ _ dX12_out_73 rfl rfl ?_
        refine k_istore_n (L' := [_, _, _, _, _, _]) dX12_out_74 (Nat.le_of_ble_eq_true rfl) rfl ?_
        refine k_iinc (L' := [_, _, _, _, _, _]) dX12_out_75 rfl (Nat.le_of_ble_eq_true rfl) rfl ?_
        refine k_goto 27 dX12_out_78 (by decide) ?_
        first | (rw [e1, e2, if_pos (e4.mpr h51), e4.mpr h51] at ih; exact ih _ _ (hg.tr hF.sc)) | (rw [e1, e2, if_neg (fun q => h51 (e4.mp q)), show vFitA V / 2 ^ s % 2 = 0 by (have := mt e4.mp h51); omega, Nat.add_zero] at ih; rw [Int.add_zero]; exact ih _ _ (hg.tr hF.sc)) | (first | exact absurd h51 h64 | exact absurd h64 h51)
    · skip
      refine k_iconst dX12_out_54 ?_
      refine k_goto 59 dX12_out_55 (by decide) ?_
      refine k_iadd dX12_out_59 ?_
      refine k_istore_n (L' := [_, _, _, _, _, _]) dX12_out_60 (Nat.le_of_ble_eq_true rfl) rfl ?_
      refine k_iload_n dX12_out_61 rfl ?_
      refine k_iload dX12_out_62 rfl ?_
      refine k_ifb_eq 72 dX12_out_64 (by decide) (fun h64 => ?_) (fun h64 => ?_)
      · skip
        refine k_iconst dX12_out_72 ?_
        refine k_iandm dX12_out_73 ?_
        refine k_istore_n (L' := [_, _, _, _, _, _]) dX12_out_74 (Nat.le_of_ble_eq_true rfl) rfl ?_
        refine k_iinc (L' := [_, _, _, _, _, _]) dX12_out_75 rfl (Nat.le_of_ble_eq_true rfl) rfl ?_
        refine k_goto 27 dX12_out_78 (by decide) ?_
        first | (rw [e1, e2, if_pos (e4.mpr h51), e4.mpr h51] at ih; exact ih _ _ (hg.tr hF.sc)) | (rw [e1, e2, if_neg (fun q => h51 (e4.mp q)), show vFitA V / 2 ^ s % 2 = 0 by (have := mt e4.mp h51); omega, Nat.add_zero] at ih; rw [Int.add_zero]; exact ih _ _ (hg.tr hF.sc)) | (first | exact absurd h51 h64 | exact absurd h64 h51)
      · skip
        refine k_iload dX12_out_67 rfl ?_
        refine k_goto 73 dX12_out_69 (by decide) ?_
        refine k_iand _ _ dX12_out_73 rfl rfl ?_
        refine k_istore_n (L' := [_, _, _, _, _, _]) dX12_out_74 (Nat.le_of_ble_eq_true rfl) rfl ?_
        refine k_iinc (L' := [_, _, _, _, _, _]) dX12_out_75 rfl (Nat.le_of_ble_eq_true rfl) rfl ?_
        refine k_goto 27 dX12_out_78 (by decide) ?_
        first | (rw [e1, e2, if_pos (e4.mpr h51), e4.mpr h51] at ih; exact ih _ _ (hg.tr hF.sc)) | (rw [e1, e2, if_neg (fun q => h51 (e4.mp q)), show vFitA V / 2 ^ s % 2 = 0 by (have := mt e4.mp h51); omega, Nat.add_zero] at ih; rw [Int.add_zero]; exact ih _ _ (hg.tr hF.sc)) | (first | exact absurd h51 h64 | exact absurd h64 h51)
theorem m_xOut {V G : Mem} (hV : Vok V) (hD : Dok V) (hN : NW V G) (hR : RD V G) {w : Int} (hw : R32 w) : MP M_X12_out [.ref 86, .int (iI w)] G (vi fun v g => if 0 ≤ w ∧ w ≤ 1 then ((if w = 0 then ((q_p64 (vFitA V) 64 : Nat) : Int) else vInA V (vFitA V)) = v ∧ SC G g) else (-10 = v ∧ xB G = g)) := by
  have h0 := hN.1.1
  have hn := hV.2.2.1
  have hset := vAll_lt hV
  have hg : SC G G := SC.rf
  refine MP.of [some (.ref 86), some (.int (iI w)), none, none, none, none] (plainFor_of_name pn_X12) (Nat.le_of_ble_eq_true rfl) rfl ?_
  refine k_iload_n dX12_out_0 rfl ?_
  refine k_i2l dX12_out_1 ⟨by omega, by omega⟩ ?_
  refine k_lconst dX12_out_2 ?_
  refine k_lconst dX12_out_3 ?_
  refine k_callSi [.long (lI _), .long (lI _), .long (lI _)] dX12_out_4 s_X12_out_65 rfl (m_xIn (by first | assumption | exact ⟨by omega, by omega⟩) (by first | assumption | exact ⟨by omega, by omega⟩) (by first | assumption | exact ⟨by omega, by omega⟩)) rfl (Nat.le_of_ble_eq_true rfl) ?_
  rintro _ _ ⟨rfl, rfl⟩
  refine k_ifb_ne 17 dX12_out_7 (by decide) (fun h7 => ?_) (fun h7 => ?_)
  · skip
    refine k_iconst dX12_out_17 ?_
    refine k_istore_n (L' := [_, _, _, _, _, _]) dX12_out_18 (Nat.le_of_ble_eq_true rfl) rfl ?_
    refine k_aload_n dX12_out_19 rfl ?_
    refine k_callVi [] dX12_out_20 s_X12_out_152 rfl (NW.all hN hV) rfl (Nat.le_of_ble_eq_true rfl) sh_o86 ⟨_, rfl, rfl⟩ (Nat.le_of_ble_eq_true rfl) ?_
    rintro _ _ ⟨rfl, rfl⟩
    refine k_istore_n (L' := [_, _, _, _, _, _]) dX12_out_23 (Nat.le_of_ble_eq_true rfl) rfl ?_
    refine k_iconst dX12_out_24 ?_
    refine k_istore (L' := [_, _, _, _, _, _]) dX12_out_25 (Nat.le_of_ble_eq_true rfl) rfl ?_
    refine (lp_out hV hD hN hR (by omega) 0 (by omega) G _ hg).mono ?_
    rintro o k ⟨v, h1, h2, h5⟩
    exact ⟨v, h1, by dsimp only; rw [if_pos (by omega)]; exact ⟨h2, h5⟩⟩
  · skip
    refine k_aload_n dX12_out_10 rfl ?_
    refine k_bipush dX12_out_11 (by decide) ?_
    refine k_callVi [.int (iI _)] dX12_out_13 s_X12_out_75 rfl m_xBad rfl (Nat.le_of_ble_eq_true rfl) sh_o86 ⟨_, rfl, rfl⟩ (Nat.le_of_ble_eq_true rfl) ?_
    rintro _ _ ⟨rfl, rfl⟩
    exact k_iret dX12_out_16 rfl ⟨_, rfl, by (try dsimp only); first | (rw [if_neg (by omega)]; exact ⟨rfl, rfl⟩)⟩
/-- what is at hand and how many are alike may have changed -/
def MF (G g : Mem) : Prop := ∀ a b, a ≠ 91 → a ≠ 92 → a ≠ 97 → ¬ (a = 86 ∧ b = 8) → g a b = G a b
theorem MF.rf {G : Mem} : MF G G := fun _ _ _ _ _ _ => rfl
theorem MF.hf {G g k : Mem} (h1 : MF G g) (h2 : HF g k) : MF G k := fun a b x y z w => (h2 a b x y w).trans (h1 a b x y z w)
theorem MF.tr {G g k : Mem} (h1 : MF G g) (h2 : MF g k) : MF G k := fun a b x y z w => (h2 a b x y z w).trans (h1 a b x y z w)
theorem MF.put {G g : Mem} {c : Nat} {v : Int} (h : MF G g) : MF G (ug g 97 c v) := fun a b x y z w => by
  rw [ug_nc z]
  exact h a b x y z w
theorem MF.sc {G g : Mem} (h : MF G g) : SC G g := fun a b x y => h a b (by omega) (by omega) (by omega) (by omega)
def FT (V : Mem) (F : Nat) (G : Mem) : Prop := ∀ j : Nat, j ≤ vAll V → G 96 j = bI (F / 2 ^ j % 2 = 1)
theorem FT.mf {V G g : Mem} {F : Nat} (h : FT V F G) (k : MF G g) : FT V F g := fun j hj => by
  rw [k 96 j (by decide) (by decide) (by decide) (by omega)]
  exact h j hj
theorem lp_like2 {V G : Mem} (hV : Vok V) (hN : NW V G) {F : Nat} (hT : FT V F G) {x t : Int} (hx : 0 ≤ x ∧ x ≤ 47) (ht : 0 ≤ t ∧ t ≤ 60)  : ∀ s : Nat, s ≤ vAll V + 1 → ∀ (g : Mem) (j5 : Option Value), MF G g → (∀ v : Nat, v < 10 → g 97 v = q_al (fun s => vLim V t s x) F (v : Int) s) → RP M_X12_mostLike 29 [some (.ref 86), some (.int (iI x)), some (.int (iI t)), some (.int (iI (vMo V t F x s))), some (.int (iI (s : Int))), j5] [] g (vi fun v k => vMo V t F x (vAll V + 1) = v ∧ MF G k) := by
  have hset := vAll_lt hV
  refine cnt (fun g j5 hg hm => ?_) (fun s hs ih g j5 hg hm => ?_)
  · skip
    refine k_iload dX12_mostLike_29 rfl ?_
    refine k_aload_n dX12_mostLike_31 rfl ?_
    refine k_callVi [] dX12_mostLike_32 s_X12_mostLike_152 rfl (NW.all (hN.sc hg.sc) hV) rfl (Nat.le_of_ble_eq_true rfl) sh_o86 ⟨_, rfl, rfl⟩ (Nat.le_of_ble_eq_true rfl) ?_
    rintro _ _ ⟨rfl, rfl⟩
    refine k_icmp_gt 91 dX12_mostLike_35 (by decide) ⟨by omega, by omega⟩ ⟨by omega, by omega⟩ (fun h35 => ?_) (fun h35 => absurd h35 (by omega))
    refine k_iload_n dX12_mostLike_91 rfl ?_
    exact k_iret dX12_mostLike_92 rfl ⟨_, rfl, rfl, hg⟩
  · have hz := (hT.mf hg) s (by omega)
    have ea : ∀ v : Int, q_al (fun s => vLim V t s x) F v (s + 1) = if F / 2 ^ s % 2 = 1 ∧ vLim V t s x = v then q_al (fun s => vLim V t s x) F v s + 1 else q_al (fun s => vLim V t s x) F v s := fun v => rfl
    have em : vMo V t F x (s + 1) = if F / 2 ^ s % 2 = 1 then max (vMo V t F x s) (q_al (fun s => vLim V t s x) F (vLim V t s x) (s + 1)) else vMo V t F x s := rfl
    have bm : 0 ≤ vMo V t F x s ∧ vMo V t F x s ≤ s := q_mo_b s
    refine k_iload dX12_mostLike_29 rfl ?_
    refine k_aload_n dX12_mostLike_31 rfl ?_
    refine k_callVi [] dX12_mostLike_32 s_X12_mostLike_152 rfl (NW.all (hN.sc hg.sc) hV) rfl (Nat.le_of_ble_eq_true rfl) sh_o86 ⟨_, rfl, rfl⟩ (Nat.le_of_ble_eq_true rfl) ?_
    rintro _ _ ⟨rfl, rfl⟩
    refine k_icmp_gt 91 dX12_mostLike_35 (by decide) ⟨by omega, by omega⟩ ⟨by omega, by omega⟩ (fun h35 => absurd h35 (by omega)) (fun h35 => ?_)
    refine k_aload_n dX12_mostLike_38 rfl ?_
    refine k_getR dX12_mostLike_39 f_X12_42 (Nat.le_of_ble_eq_true rfl) sh_o86 (fun _ => rfl) ?_
    refine k_iload dX12_mostLike_42 rfl ?_
    refine k_zald s dX12_mostLike_44 (Nat.le_of_ble_eq_true rfl) sh_a96 (by decide) (by omega) (by omega) ?_
    rw [hz]
    refine k_ifb_eq 85 dX12_mostLike_45 (by decide) (fun h45 => ?_) (fun h45 => ?_)
    · skip
      refine k_iinc (L' := [_, _, _, _, _, _]) dX12_mostLike_85 rfl (Nat.le_of_ble_eq_true rfl) rfl ?_
      refine k_goto 29 dX12_mostLike_88 (by decide) ?_
      rw [em, if_neg h45] at ih
      exact ih _ _ hg (fun v hv => by rw [ea, if_neg (fun q => h45 q.1)]; exact hm v hv)
    · have bl := vLim_b hV (t := t) (by omega) s x
      obtain ⟨u, hu⟩ : ∃ u : Nat, vLim V t s x = (u : Int) := ⟨(vLim V t s x).toNat, by omega⟩
      have mu := hm u (by omega)
      have ba := q_al_b (f := fun s => vLim V t s x) (F := F) (v := (u : Int)) s
      have eu := ea (u : Int)
      rw [if_pos ⟨h45, hu⟩] at eu
      refine k_aload_n dX12_mostLike_48 rfl ?_
      refine k_iload dX12_mostLike_49 rfl ?_
      refine k_callVv [.int (iI _)] dX12_mostLike_51 s_X12_mostLike_155 rfl (m_xLayHand hV (hN.sc hg.sc)) rfl (Nat.le_of_ble_eq_true rfl) sh_o86 ⟨_, rfl, rfl⟩ (Nat.le_of_ble_eq_true rfl) ?_
      rintro g1 ⟨hF, hH⟩
      have e97 : g1 97 u = g 97 u := hF 97 u (by decide) (by decide) (by omega)
      refine k_aload_n dX12_mostLike_54 rfl ?_
      refine k_iload_n dX12_mostLike_55 rfl ?_
      refine k_iload_n dX12_mostLike_56 rfl ?_
      refine k_callVi [.int (iI _), .int (iI _)] dX12_mostLike_57 s_X12_mostLike_159 rfl (m_xLimitAt hV (by omega) hH (by omega) (by omega)) rfl (Nat.le_of_ble_eq_true rfl) sh_o86 ⟨_, rfl, rfl⟩ (Nat.le_of_ble_eq_true rfl) ?_
      rintro _ _ ⟨rfl, rfl⟩
      rw [hu]
      refine k_istore (L' := [_, _, _, _, _, _]) dX12_mostLike_60 (Nat.le_of_ble_eq_true rfl) rfl ?_
      refine k_aload_n dX12_mostLike_62 rfl ?_
      refine k_getR dX12_mostLike_63 f_X12_45 (Nat.le_of_ble_eq_true rfl) sh_o86 (fun _ => rfl) ?_
      refine k_iload dX12_mostLike_66 rfl ?_
      refine k_dup2 dX12_mostLike_68 rfl rfl ?_
      refine k_iald u dX12_mostLike_69 (Nat.le_of_ble_eq_true rfl) sh_a97 (by decide) (by omega) (by omega) ?_
      refine k_iconst dX12_mostLike_70 ?_
      refine k_iadd dX12_mostLike_71 ?_
      refine k_iast u dX12_mostLike_72 (Nat.le_of_ble_eq_true rfl) sh_a97 (by decide) (by omega) (by omega) ?_
      refine k_iload_n dX12_mostLike_73 rfl ?_
      refine k_aload_n dX12_mostLike_74 rfl ?_
      refine k_getR dX12_mostLike_75 f_X12_45 (Nat.le_of_ble_eq_true rfl) sh_o86 (fun _ => rfl) ?_
      refine k_iload dX12_mostLike_78 rfl ?_
      refine k_iald u dX12_mostLike_80 (Nat.le_of_ble_eq_true rfl) sh_a97 (by decide) (by omega) (by omega) ?_
      rw [ug_at, e97, mu, ← eu]
      refine k_callSi [.int (iI _), .int (iI _)] dX12_mostLike_81 s_X12_mostLike_122 rfl (m_xMost ⟨by omega, by omega⟩ ⟨by omega, by omega⟩) rfl (Nat.le_of_ble_eq_true rfl) ?_
      rintro _ _ ⟨rfl, rfl⟩
      refine k_istore_n (L' := [_, _, _, _, _, _]) dX12_mostLike_84 (Nat.le_of_ble_eq_true rfl) rfl ?_
      refine k_iinc (L' := [_, _, _, _, _, _]) dX12_mostLike_85 rfl (Nat.le_of_ble_eq_true rfl) rfl ?_
      refine k_goto 29 dX12_mostLike_88 (by decide) ?_
      rw [em, if_pos h45, hu] at ih
      refine ih _ _ (hg.hf hF).put (fun v hv => ?_)
      by_cases z : v = u
      · subst z
        rw [ug_at]
      · rw [ug_np z, hF 97 v (by decide) (by decide) (by omega), ea, if_neg (fun q => by omega)]
        exact hm v hv
theorem lp_like1 {V G : Mem} (hV : Vok V) (hN : NW V G) {F : Nat} (hT : FT V F G) {x t : Int} (hx : 0 ≤ x ∧ x ≤ 47) (ht : 0 ≤ t ∧ t ≤ 60)  : ∀ v : Nat, v ≤ 10 → ∀ (g : Mem) (j5 : Option Value), MF G g → (∀ j : Nat, j < v → g 97 j = 0) → RP M_X12_mostLike 5 [some (.ref 86), some (.int (iI x)), some (.int (iI t)), some (.int (iI 0)), some (.int (iI (v : Int))), j5] [] g (vi fun v k => vMo V t F x (vAll V + 1) = v ∧ MF G k) := by
  refine cnt (fun g j5 hg hm => ?_) (fun v hv ih g j5 hg hm => ?_)
  · skip
    refine k_iload dX12_mostLike_5 rfl ?_
    refine k_bipush dX12_mostLike_7 (by decide) ?_
    refine k_icmp_ge 26 dX12_mostLike_9 (by decide) ⟨by omega, by omega⟩ ⟨by decide, by decide⟩ (fun h9 => ?_) (fun h9 => absurd h9 (by omega))
    refine k_iconst dX12_mostLike_26 ?_
    refine k_istore (L' := [_, _, _, _, _, _]) dX12_mostLike_27 (Nat.le_of_ble_eq_true rfl) rfl ?_
    exact lp_like2 hV hN hT hx ht 0 (by omega) g _ hg (fun v hv => hm v hv)
  · skip
    refine k_iload dX12_mostLike_5 rfl ?_
    refine k_bipush dX12_mostLike_7 (by decide) ?_
    refine k_icmp_ge 26 dX12_mostLike_9 (by decide) ⟨by omega, by omega⟩ ⟨by decide, by decide⟩ (fun h9 => absurd h9 (by omega)) (fun h9 => ?_)
    refine k_aload_n dX12_mostLike_12 rfl ?_
    refine k_getR dX12_mostLike_13 f_X12_45 (Nat.le_of_ble_eq_true rfl) sh_o86 (fun _ => rfl) ?_
    refine k_iload dX12_mostLike_16 rfl ?_
    refine k_iconst dX12_mostLike_18 ?_
    refine k_iast v dX12_mostLike_19 (Nat.le_of_ble_eq_true rfl) sh_a97 (by decide) (by omega) (by omega) ?_
    refine k_iinc (L' := [_, _, _, _, _, _]) dX12_mostLike_20 rfl (Nat.le_of_ble_eq_true rfl) rfl ?_
    refine k_goto 5 dX12_mostLike_23 (by decide) ?_
    refine ih _ _ hg.put (fun j hj => ?_)
    by_cases z : j = v
    · subst z; rw [ug_at]
    · rw [ug_np z]; exact hm j (by omega)
theorem m_xMostLike {V G : Mem} (hV : Vok V) (hN : NW V G) {F : Nat} (hT : FT V F G) {x t : Int} (hx : 0 ≤ x ∧ x ≤ 47) (ht : 0 ≤ t ∧ t ≤ 60)  : MP M_X12_mostLike [.ref 86, .int (iI x), .int (iI t)] G (vi fun v k => vMo V t F x (vAll V + 1) = v ∧ MF G k) := by
  refine MP.of [some (.ref 86), some (.int (iI x)), some (.int (iI t)), none, none, none] (plainFor_of_name pn_X12) (Nat.le_of_ble_eq_true rfl) rfl ?_
  refine k_iconst dX12_mostLike_0 ?_
  refine k_istore_n (L' := [_, _, _, _, _, _]) dX12_mostLike_1 (Nat.le_of_ble_eq_true rfl) rfl ?_
  refine k_iconst dX12_mostLike_2 ?_
  refine k_istore (L' := [_, _, _, _, _, _]) dX12_mostLike_3 (Nat.le_of_ble_eq_true rfl) rfl ?_
  exact lp_like1 hV hN hT hx ht 0 (by omega) G _ MF.rf (fun j hj => absurd hj (by omega))
theorem q_al_p {f : Nat → Int} {F : Nat} {v : Int} : ∀ s, q_al f F v s ≤ ((q_p64 F s : Nat) : Int)
  | 0 => by show (0 : Int) ≤ 0; decide
  | s + 1 => by
    have h := q_al_p (f := f) (F := F) (v := v) s
    have e : q_p64 F (s + 1) = q_p64 F s + F / 2 ^ s % 2 := rfl
    show (if F / 2 ^ s % 2 = 1 ∧ f s = v then q_al f F v s + 1 else q_al f F v s) ≤ _
    split <;> omega
theorem q_mo_p {f : Nat → Int} {F : Nat} : ∀ s, q_mo f F s ≤ ((q_p64 F s : Nat) : Int)
  | 0 => by show (0 : Int) ≤ 0; decide
  | s + 1 => by
    have h := q_mo_p (f := f) (F := F) s
    have h2 := q_al_p (f := f) (F := F) (v := f s) (s + 1)
    have e : q_p64 F (s + 1) = q_p64 F s + F / 2 ^ s % 2 := rfl
    show (if F / 2 ^ s % 2 = 1 then max (q_mo f F s) (q_al f F (f s) (s + 1)) else q_mo f F s) ≤ _
    split <;> omega
theorem vBC_1 {V : Mem} (hV : Vok V) {t : Int} : vBC V t (vFitA V) 1 = (0, vMo V t (vFitA V) 0 (vAll V + 1)) := by
  have h := q_mo_p (f := fun s => vLim V t s 0) (F := vFitA V) (vAll V + 1)
  have e := vFitA_n hV
  show (if vMo V t (vFitA V) ((0 : Nat) : Int) (vAll V + 1) < ((q_p64 (vFitA V) 64 : Nat) : Int) + 1 then (((0 : Nat) : Int), vMo V t (vFitA V) ((0 : Nat) : Int) (vAll V + 1)) else _) = _
  rw [if_pos (by show q_mo (fun s => vLim V t s 0) (vFitA V) (vAll V + 1) < _; omega)]
  rfl
theorem vMo_b {V : Mem} (hV : Vok V) {t : Int} {F : Nat} {x : Int} : 0 ≤ vMo V t F x (vAll V + 1) ∧ vMo V t F x (vAll V + 1) ≤ 64 := by
  have h : 0 ≤ vMo V t F x (vAll V + 1) ∧ vMo V t F x (vAll V + 1) ≤ ((vAll V + 1 : Nat) : Int) := q_mo_b (vAll V + 1)
  have h2 := vAll_lt hV
  omega
theorem lp_look2 {V G : Mem} (hV : Vok V) (hN : NW V G) (hT : FT V (vFitA V) G) {t m : Int} (ht : 0 ≤ t ∧ t ≤ 59) (hm : 0 < m ∧ m ≤ 64)  : ∀ x : Nat, x ≤ 48 → 0 < x → ∀ (g : Mem) (j6 : Option Value), MF G g → RP M_X12_look 73 [some (.ref 86), some (.int (iI t)), some (.int (iI m)), some (.int (iI (vBC V t (vFitA V) x).1)), some (.int (iI (vBC V t (vFitA V) x).2)), some (.int (iI (x : Int))), j6] [] g (vi fun v k => (vBC V t (vFitA V) 48).1 = v ∧ MF G k) := by
  refine cnt (fun h0 g j6 hg => ?_) (fun x hx ih h0 g j6 hg => ?_)
  · skip
    refine k_iload dX12_look_73 rfl ?_
    refine k_bipush dX12_look_75 (by decide) ?_
    refine k_icmp_gt 122 dX12_look_77 (by decide) ⟨by omega, by omega⟩ ⟨by decide, by decide⟩ (fun h77 => ?_) (fun h77 => absurd h77 (by omega))
    refine k_iload_n dX12_look_122 rfl ?_
    exact k_iret dX12_look_123 rfl ⟨_, rfl, rfl, hg⟩
  · have e : vBC V t (vFitA V) (x + 1) = if vMo V t (vFitA V) (x : Int) (vAll V + 1) < (vBC V t (vFitA V) x).2 then ((x : Int), vMo V t (vFitA V) (x : Int) (vAll V + 1)) else vBC V t (vFitA V) x := rfl
    have b1 := vMo_b hV (t := t) (F := (vFitA V)) (x := (x : Int))
    have b2 := vBC_b hV (t := t) (F := (vFitA V)) x
    rw [e] at ih
    refine k_iload dX12_look_73 rfl ?_
    refine k_bipush dX12_look_75 (by decide) ?_
    refine k_icmp_gt 122 dX12_look_77 (by decide) ⟨by omega, by omega⟩ ⟨by decide, by decide⟩ (fun h77 => absurd h77 (by omega)) (fun h77 => ?_)
    refine k_iload_n dX12_look_80 rfl ?_
    refine k_if_le 122 dX12_look_81 (by decide) ⟨by omega, by omega⟩ (fun h81 => absurd h81 (by omega)) (fun h81 => ?_)
    refine k_aload_n dX12_look_84 rfl ?_
    refine k_iload dX12_look_85 rfl ?_
    refine k_iload_n dX12_look_87 rfl ?_
    refine k_callVi [.int (iI _), .int (iI _)] dX12_look_88 s_X12_look_199 rfl (m_xMostLike hV (hN.sc hg.sc) (hT.mf hg) (by omega) (by omega)) rfl (Nat.le_of_ble_eq_true rfl) sh_o86 ⟨_, rfl, rfl⟩ (Nat.le_of_ble_eq_true rfl) ?_
    rintro _ g2 ⟨rfl, hg2⟩
    refine k_istore (L' := [_, _, _, _, _, _, _]) dX12_look_91 (Nat.le_of_ble_eq_true rfl) rfl ?_
    refine k_iload dX12_look_93 rfl ?_
    refine k_iload dX12_look_95 rfl ?_
    refine k_icmp_ge 105 dX12_look_97 (by decide) ⟨by omega, by omega⟩ ⟨by omega, by omega⟩ (fun h97 => ?_) (fun h97 => ?_)
    · skip
      refine k_iload_n dX12_look_105 rfl ?_
      refine k_istore_n (L' := [_, _, _, _, _, _, _]) dX12_look_106 (Nat.le_of_ble_eq_true rfl) rfl ?_
      refine k_iload dX12_look_107 rfl ?_
      refine k_iload dX12_look_109 rfl ?_
      refine k_callSi [.int (iI _), .int (iI _)] dX12_look_111 s_X12_look_119 rfl (m_xLeast (by first | assumption | exact ⟨by omega, by omega⟩) (by first | assumption | exact ⟨by omega, by omega⟩)) rfl (Nat.le_of_ble_eq_true rfl) ?_
      rintro _ _ ⟨rfl, rfl⟩
      refine k_istore (L' := [_, _, _, _, _, _, _]) dX12_look_114 (Nat.le_of_ble_eq_true rfl) rfl ?_
      refine k_iinc (L' := [_, _, _, _, _, _, _]) dX12_look_116 rfl (Nat.le_of_ble_eq_true rfl) rfl ?_
      refine k_goto 73 dX12_look_119 (by decide) ?_
      first | (rw [if_pos (by omega)] at ih; rw [show min (vBC V t (vFitA V) x).2 (vMo V t (vFitA V) (x : Int) (vAll V + 1)) = vMo V t (vFitA V) (x : Int) (vAll V + 1) by omega]; exact ih (by omega) _ _ (hg.tr hg2)) | (rw [if_neg (by omega)] at ih; rw [show min (vBC V t (vFitA V) x).2 (vMo V t (vFitA V) (x : Int) (vAll V + 1)) = (vBC V t (vFitA V) x).2 by omega]; exact ih (by omega) _ _ (hg.tr hg2))
    · skip
      refine k_iload dX12_look_100 rfl ?_
      refine k_goto 106 dX12_look_102 (by decide) ?_
      refine k_istore_n (L' := [_, _, _, _, _, _, _]) dX12_look_106 (Nat.le_of_ble_eq_true rfl) rfl ?_
      refine k_iload dX12_look_107 rfl ?_
      refine k_iload dX12_look_109 rfl ?_
      refine k_callSi [.int (iI _), .int (iI _)] dX12_look_111 s_X12_look_119 rfl (m_xLeast (by first | assumption | exact ⟨by omega, by omega⟩) (by first | assumption | exact ⟨by omega, by omega⟩)) rfl (Nat.le_of_ble_eq_true rfl) ?_
      rintro _ _ ⟨rfl, rfl⟩
      refine k_istore (L' := [_, _, _, _, _, _, _]) dX12_look_114 (Nat.le_of_ble_eq_true rfl) rfl ?_
      refine k_iinc (L' := [_, _, _, _, _, _, _]) dX12_look_116 rfl (Nat.le_of_ble_eq_true rfl) rfl ?_
      refine k_goto 73 dX12_look_119 (by decide) ?_
      first | (rw [if_pos (by omega)] at ih; rw [show min (vBC V t (vFitA V) x).2 (vMo V t (vFitA V) (x : Int) (vAll V + 1)) = vMo V t (vFitA V) (x : Int) (vAll V + 1) by omega]; exact ih (by omega) _ _ (hg.tr hg2)) | (rw [if_neg (by omega)] at ih; rw [show min (vBC V t (vFitA V) x).2 (vMo V t (vFitA V) (x : Int) (vAll V + 1)) = (vBC V t (vFitA V) x).2 by omega]; exact ih (by omega) _ _ (hg.tr hg2))
theorem lp_look1 {V G : Mem} (hV : Vok V) (hD : Dok V) (hN : NW V G) (hR : RD V G) {t : Int} (ht : 0 ≤ t ∧ t ≤ 59) : ∀ s : Nat, s ≤ vAll V + 1 → ∀ (g : Mem) (j4 j5 j6 : Option Value), SC G g → (∀ j : Nat, j < s → g 96 j = bI ((vFitA V) / 2 ^ j % 2 = 1)) → RP M_X12_look 18 [some (.ref 86), some (.int (iI t)), some (.int (iI ((q_p64 (vFitA V) s : Nat) : Int))), some (.int (iI (s : Int))), j4, j5, j6] [] g (vi fun v k => vBCA V t (vFitA V) = v ∧ SC G k) := by
  have hset := vAll_lt hV
  refine cnt (fun g j4 j5 j6 hg hf => ?_) (fun s hs ih g j4 j5 j6 hg hf => ?_)
  · have e2 := vFitA_z (V := V)
    have e3 := q_p64_b (vFitA V) (vAll V + 1)
    have b1 := vMo_b hV (t := t) (F := vFitA V) (x := 0)
    have hT : FT V (vFitA V) g := fun j hj => hf j (by omega)
    refine k_iload_n dX12_look_18 rfl ?_
    refine k_aload_n dX12_look_19 rfl ?_
    refine k_callVi [] dX12_look_20 s_X12_look_152 rfl (NW.all (hN.sc hg) hV) rfl (Nat.le_of_ble_eq_true rfl) sh_o86 ⟨_, rfl, rfl⟩ (Nat.le_of_ble_eq_true rfl) ?_
    rintro _ _ ⟨rfl, rfl⟩
    refine k_icmp_gt 64 dX12_look_23 (by decide) ⟨by omega, by omega⟩ ⟨by omega, by omega⟩ (fun h23 => ?_) (fun h23 => absurd h23 (by omega))
    refine k_iconst dX12_look_64 ?_
    refine k_istore_n (L' := [_, _, _, _, _, _, _]) dX12_look_65 (Nat.le_of_ble_eq_true rfl) rfl ?_
    refine k_ldc 1000000 dX12_look_66 w_1025 ?_
    refine k_istore (L' := [_, _, _, _, _, _, _]) dX12_look_68 (Nat.le_of_ble_eq_true rfl) rfl ?_
    refine k_iconst dX12_look_70 ?_
    refine k_istore (L' := [_, _, _, _, _, _, _]) dX12_look_71 (Nat.le_of_ble_eq_true rfl) rfl ?_
    skip
    refine k_iload dX12_look_73 rfl ?_
    refine k_bipush dX12_look_75 (by decide) ?_
    refine k_icmp_gt 122 dX12_look_77 (by decide) ⟨by decide, by decide⟩ ⟨by decide, by decide⟩ (fun h => False.elim (by revert h; decide)) (fun _ => ?_)
    refine k_iload_n dX12_look_80 rfl ?_
    refine k_if_le 122 dX12_look_81 (by decide) ⟨by omega, by omega⟩ (fun h81 => ?_) (fun h81 => ?_)
    · skip
      refine k_iload_n dX12_look_122 rfl ?_
      exact k_iret dX12_look_123 rfl ⟨_, rfl, if_pos (e2.mp (by omega)), hg⟩
    · skip
      refine k_aload_n dX12_look_84 rfl ?_
      refine k_iload dX12_look_85 rfl ?_
      refine k_iload_n dX12_look_87 rfl ?_
      refine k_callVi [.int (iI _), .int (iI _)] dX12_look_88 s_X12_look_199 rfl (m_xMostLike hV (hN.sc hg) hT (by omega) (by omega)) rfl (Nat.le_of_ble_eq_true rfl) sh_o86 ⟨_, rfl, rfl⟩ (Nat.le_of_ble_eq_true rfl) ?_
      rintro _ g2 ⟨rfl, hg2⟩
      refine k_istore (L' := [_, _, _, _, _, _, _]) dX12_look_91 (Nat.le_of_ble_eq_true rfl) rfl ?_
      refine k_iload dX12_look_93 rfl ?_
      refine k_iload dX12_look_95 rfl ?_
      refine k_icmp_ge 105 dX12_look_97 (by decide) ⟨by omega, by omega⟩ ⟨by decide, by decide⟩ (fun h97 => absurd h97 (by omega)) (fun h97 => ?_)
      refine k_iload dX12_look_100 rfl ?_
      refine k_goto 106 dX12_look_102 (by decide) ?_
      refine k_istore_n (L' := [_, _, _, _, _, _, _]) dX12_look_106 (Nat.le_of_ble_eq_true rfl) rfl ?_
      refine k_iload dX12_look_107 rfl ?_
      refine k_iload dX12_look_109 rfl ?_
      refine k_callSi [.int (iI _), .int (iI _)] dX12_look_111 s_X12_look_119 rfl (m_xLeast (by first | assumption | exact ⟨by omega, by omega⟩) (by first | assumption | exact ⟨by omega, by omega⟩)) rfl (Nat.le_of_ble_eq_true rfl) ?_
      rintro _ _ ⟨rfl, rfl⟩
      refine k_istore (L' := [_, _, _, _, _, _, _]) dX12_look_114 (Nat.le_of_ble_eq_true rfl) rfl ?_
      refine k_iinc (L' := [_, _, _, _, _, _, _]) dX12_look_116 rfl (Nat.le_of_ble_eq_true rfl) rfl ?_
      refine k_goto 73 dX12_look_119 (by decide) ?_
      rw [show min 1000000 (vMo V t (vFitA V) 0 (vAll V + 1)) = vMo V t (vFitA V) 0 (vAll V + 1) by omega]
      have hl := lp_look2 (V := V) (G := g2) hV (hN.sc (hg.tr hg2.sc)) (hT.mf hg2) (m := ((q_p64 (vFitA V) (vAll V + 1) : Nat) : Int)) ht ⟨by omega, by omega⟩ 1 (by omega) (by omega) g2 (some (.int (iI (vMo V t (vFitA V) 0 (vAll V + 1))))) MF.rf
      rw [vBC_1 hV] at hl
      refine RP.mono hl ?_
      rintro o k ⟨v, h1, h2, h3⟩
      exact ⟨v, h1, (if_neg (fun q => by have := e2.mpr q; omega)).trans h2, (hg.tr hg2.sc).tr h3.sc⟩
  · have e1 : q_p64 (vFitA V) (s + 1) = q_p64 (vFitA V) s + (vFitA V) / 2 ^ s % 2 := rfl
    have e3 := q_p64_b (vFitA V) s
    have e4 := vFitA_i (V := V) (s := s) (by omega)
    have e5 : bI (vReadA V s = true) = bI ((vFitA V) / 2 ^ s % 2 = 1) := bI_c e4.symm
    refine k_iload_n dX12_look_18 rfl ?_
    refine k_aload_n dX12_look_19 rfl ?_
    refine k_callVi [] dX12_look_20 s_X12_look_152 rfl (NW.all (hN.sc hg) hV) rfl (Nat.le_of_ble_eq_true rfl) sh_o86 ⟨_, rfl, rfl⟩ (Nat.le_of_ble_eq_true rfl) ?_
    rintro _ _ ⟨rfl, rfl⟩
    refine k_icmp_gt 64 dX12_look_23 (by decide) ⟨by omega, by omega⟩ ⟨by omega, by omega⟩ (fun h23 => absurd h23 (by omega)) (fun h23 => ?_)
    refine k_aload_n dX12_look_26 rfl ?_
    refine k_iload_n dX12_look_27 rfl ?_
    refine k_callVv [.int (iI _)] dX12_look_28 s_X12_look_155 rfl (m_xLayHand hV (hN.sc hg)) rfl (Nat.le_of_ble_eq_true rfl) sh_o86 ⟨_, rfl, rfl⟩ (Nat.le_of_ble_eq_true rfl) ?_
    rintro g1 ⟨hF, hH⟩
    refine k_aload_n dX12_look_31 rfl ?_
    refine k_getR dX12_look_32 f_X12_42 (Nat.le_of_ble_eq_true rfl) sh_o86 (fun _ => rfl) ?_
    refine k_iload_n dX12_look_35 rfl ?_
    refine k_aload_n dX12_look_36 rfl ?_
    refine k_callVi [] dX12_look_37 s_X12_look_195 rfl (m_xAreSo hV hD (by omega) hH ((hR.sc hg).sc hF.sc)) rfl (Nat.le_of_ble_eq_true rfl) sh_o86 ⟨_, rfl, rfl⟩ (Nat.le_of_ble_eq_true rfl) ?_
    rintro _ _ ⟨rfl, rfl⟩
    rw [e5]
    refine k_zast s dX12_look_40 (Nat.le_of_ble_eq_true rfl) sh_a96 (by decide) (by omega) (by omega) bI_01 ?_
    refine k_iload_n dX12_look_41 rfl ?_
    refine k_aload_n dX12_look_42 rfl ?_
    refine k_getR dX12_look_43 f_X12_42 (Nat.le_of_ble_eq_true rfl) sh_o86 (fun _ => rfl) ?_
    refine k_iload_n dX12_look_46 rfl ?_
    refine k_zald s dX12_look_47 (Nat.le_of_ble_eq_true rfl) sh_a96 (by decide) (by omega) (by omega) ?_
    rw [ug_at]
    have hk : SC G (ug g1 96 s (bI ((vFitA V) / 2 ^ s % 2 = 1))) := fun a b x y => by
      rw [ug_nc (by omega)]
      exact (hg.tr hF.sc) a b x y
    have hk2 : ∀ j : Nat, j < s + 1 → ug g1 96 s (bI ((vFitA V) / 2 ^ s % 2 = 1)) 96 j = bI ((vFitA V) / 2 ^ j % 2 = 1) := fun j hj => by
      by_cases z : j = s
      · subst z; rw [ug_at]
      · rw [ug_np z, hF 96 j (by decide) (by decide) (by omega)]
        exact hf j (by omega)
    refine k_ifb_eq 55 dX12_look_48 (by decide) (fun h48 => ?_) (fun h48 => ?_)
    · rw [e1, show vFitA V / 2 ^ s % 2 = 0 by omega, Nat.add_zero] at ih
      refine k_iconst dX12_look_55 ?_
      refine k_iadd dX12_look_56 ?_
      refine k_istore_n (L' := [_, _, _, _, _, _, _]) dX12_look_57 (Nat.le_of_ble_eq_true rfl) rfl ?_
      refine k_iinc (L' := [_, _, _, _, _, _, _]) dX12_look_58 rfl (Nat.le_of_ble_eq_true rfl) rfl ?_
      refine k_goto 18 dX12_look_61 (by decide) ?_
      rw [Int.add_zero]
      exact ih _ _ _ _ hk hk2
    · rw [e1, h48] at ih
      refine k_iconst dX12_look_51 ?_
      refine k_goto 56 dX12_look_52 (by decide) ?_
      refine k_iadd dX12_look_56 ?_
      refine k_istore_n (L' := [_, _, _, _, _, _, _]) dX12_look_57 (Nat.le_of_ble_eq_true rfl) rfl ?_
      refine k_iinc (L' := [_, _, _, _, _, _, _]) dX12_look_58 rfl (Nat.le_of_ble_eq_true rfl) rfl ?_
      refine k_goto 18 dX12_look_61 (by decide) ?_
      exact ih _ _ _ _ hk hk2
theorem m_xLook {V G : Mem} (hV : Vok V) (hD : Dok V) (hN : NW V G) (hR : RD V G) {t : Int} (ht : R32 t) : MP M_X12_look [.ref 86, .int (iI t)] G (vi fun v g => if 0 ≤ t ∧ t ≤ 59 then (vBCA V t (vFitA V) = v ∧ SC G g) else (-2 = v ∧ xB G = g)) := by
  have h0 := hN.1.1
  have hn := hV.2.2.1
  have hset := vAll_lt hV
  refine MP.of [some (.ref 86), some (.int (iI t)), none, none, none, none, none] (plainFor_of_name pn_X12) (Nat.le_of_ble_eq_true rfl) rfl ?_
  refine k_iload_n dX12_look_0 rfl ?_
  refine k_callSi [.int (iI _)] dX12_look_1 s_X12_look_149 rfl (m_xisMinute (by first | assumption | exact ⟨by omega, by omega⟩)) rfl (Nat.le_of_ble_eq_true rfl) ?_
  rintro _ _ ⟨rfl, rfl⟩
  refine k_ifb_ne 14 dX12_look_4 (by decide) (fun h4 => ?_) (fun h4 => ?_)
  · skip
    refine k_iconst dX12_look_14 ?_
    refine k_istore_n (L' := [_, _, _, _, _, _, _]) dX12_look_15 (Nat.le_of_ble_eq_true rfl) rfl ?_
    refine k_iconst dX12_look_16 ?_
    refine k_istore_n (L' := [_, _, _, _, _, _, _]) dX12_look_17 (Nat.le_of_ble_eq_true rfl) rfl ?_
    refine (lp_look1 hV hD hN hR (by omega) 0 (by omega) G _ _ _ SC.rf (fun j hj => absurd hj (by omega))).mono ?_
    rintro o k ⟨v, h1, h2, h5⟩
    exact ⟨v, h1, by dsimp only; rw [if_pos (by omega)]; exact ⟨h2, h5⟩⟩
  · skip
    refine k_aload_n dX12_look_7 rfl ?_
    refine k_bipush dX12_look_8 (by decide) ?_
    refine k_callVi [.int (iI _)] dX12_look_10 s_X12_look_75 rfl m_xBad rfl (Nat.le_of_ble_eq_true rfl) sh_o86 ⟨_, rfl, rfl⟩ (Nat.le_of_ble_eq_true rfl) ?_
    rintro _ _ ⟨rfl, rfl⟩
    exact k_iret dX12_look_13 rfl ⟨_, rfl, by (try dsimp only); first | (rw [if_neg (by omega)]; exact ⟨rfl, rfl⟩)⟩
theorem HD.kind {V g : Mem} {c set : Nat} (h : HD V set g) (v : Int) : HD (ug V 1 c v) set (ug g 91 c v) := by
  obtain ⟨h1, h2, h3⟩ := h
  refine ⟨?_, ?_, fun i hi => ?_⟩
  · simp (disch := omega) only [ug_nc]
    exact h1
  · rw [ug_nc (by decide)]
    exact h2
  · have k := h3 i (by simp (disch := omega) only [ug_nc] at hi; exact hi)
    by_cases e : i = c
    · subst e
      rw [ug_at, ug_at]
      simp (disch := omega) only [ug_nc]
      exact ⟨trivial, k.2⟩
    · rw [ug_np (i := 1) (a := 1) e, ug_np (i := 91) (a := 91) e]
      simp (disch := omega) only [ug_nc]
      exact k
theorem HF.kind {G g : Mem} {c : Nat} {v : Int} (h : HF G g) : HF G (ug g 91 c v) := fun a b x y z => by
  rw [ug_nc x]
  exact h a b x y z
theorem RD.kind {V G : Mem} {c : Nat} {v : Int} (h : RD V G) : RD (ug V 1 c v) G := by
  unfold RD
  simp (disch := omega) only [ug_nc]
  exact h
theorem vAll_k {V : Mem} {c : Nat} {v : Int} : vAll (ug V 1 c v) = vAll V := by
  unfold vAll
  rw [ug_nc (by decide)]
theorem lp_xDolls {V G : Mem} (hV : Vok V) (hD : Dok V) (hN : NW V G) (hR : RD V G)  : ∀ c : Nat, c ≤ (V 0 2).toNat → ∀ g : Mem, HF G g → RP M_X12_dolls 4 [some (.ref 86), some (.int (iI ((vDolls V c : Nat) : Int))), some (.int (iI (c : Int)))] [] g (vi fun v k => ((vDolls V (V 0 2).toNat : Nat) : Int) = v ∧ HF G k) := by
  have hn := hV.2.2.1
  have hset := vAll_lt hV
  refine cnt (fun g hg => ?_) (fun c hc ih g hg => ?_)
  · have h0 := (hN.hf hg).1.1
    refine k_iload_n dX12_dolls_4 rfl ?_
    refine k_aload_n dX12_dolls_5 rfl ?_
    refine k_callVi [] dX12_dolls_6 s_X12_dolls_61 rfl m_xChildren rfl (Nat.le_of_ble_eq_true rfl) sh_o86 ⟨_, rfl, rfl⟩ (Nat.le_of_ble_eq_true rfl) ?_
    rintro _ _ ⟨rfl, rfl⟩
    refine k_icmp_ge 50 dX12_dolls_9 (by decide) ⟨by omega, by omega⟩ ⟨by omega, by omega⟩ (fun h9 => ?_) (fun h9 => absurd h9 (by omega))
    refine k_iload_n dX12_dolls_50 rfl ?_
    exact k_iret dX12_dolls_51 rfl ⟨_, rfl, rfl, hg⟩
  · have h0 := (hN.hf hg).1.1
    have e : vDolls V (c + 1) = if vReadA (ug V 1 c 5) (vAll V) = true then vDolls V c ||| 2 ^ c else vDolls V c := rfl
    rw [e] at ih
    refine k_iload_n dX12_dolls_4 rfl ?_
    refine k_aload_n dX12_dolls_5 rfl ?_
    refine k_callVi [] dX12_dolls_6 s_X12_dolls_61 rfl m_xChildren rfl (Nat.le_of_ble_eq_true rfl) sh_o86 ⟨_, rfl, rfl⟩ (Nat.le_of_ble_eq_true rfl) ?_
    rintro _ _ ⟨rfl, rfl⟩
    refine k_icmp_ge 50 dX12_dolls_9 (by decide) ⟨by omega, by omega⟩ ⟨by omega, by omega⟩ (fun h9 => absurd h9 (by omega)) (fun h9 => ?_)
    refine k_aload_n dX12_dolls_12 rfl ?_
    refine k_aload_n dX12_dolls_13 rfl ?_
    refine k_callVi [] dX12_dolls_14 s_X12_dolls_152 rfl (NW.all (hN.hf hg) hV) rfl (Nat.le_of_ble_eq_true rfl) sh_o86 ⟨_, rfl, rfl⟩ (Nat.le_of_ble_eq_true rfl) ?_
    rintro _ _ ⟨rfl, rfl⟩
    refine k_callVv [.int (iI _)] dX12_dolls_17 s_X12_dolls_155 rfl (m_xLayHand hV (hN.hf hg)) rfl (Nat.le_of_ble_eq_true rfl) sh_o86 ⟨_, rfl, rfl⟩ (Nat.le_of_ble_eq_true rfl) ?_
    rintro g1 ⟨hF, hH⟩
    refine k_aload_n dX12_dolls_20 rfl ?_
    refine k_getR dX12_dolls_21 f_X12_27 (Nat.le_of_ble_eq_true rfl) sh_o86 (fun _ => rfl) ?_
    refine k_iload_n dX12_dolls_24 rfl ?_
    refine k_iconst dX12_dolls_25 ?_
    refine k_iast c dX12_dolls_26 (Nat.le_of_ble_eq_true rfl) sh_a91 (by decide) (by omega) (by omega) ?_
    refine k_iload_n dX12_dolls_27 rfl ?_
    refine k_aload_n dX12_dolls_28 rfl ?_
    refine k_callVi [] dX12_dolls_29 s_X12_dolls_195 rfl (m_xAreSo (V := ug V 1 c 5) (hV.kind (by omega)) hD.kind hset (hH.kind 5) (hR.kind.sc (hg.tr hF.kind).sc)) rfl (Nat.le_of_ble_eq_true rfl) sh_o86 ⟨_, rfl, rfl⟩ (Nat.le_of_ble_eq_true rfl) ?_
    rintro _ _ ⟨rfl, rfl⟩
    refine k_ifb_eq 41 dX12_dolls_32 (by decide) (fun h32 => ?_) (fun h32 => ?_)
    · skip
      refine k_iconst dX12_dolls_41 ?_
      refine k_ior _ 0 dX12_dolls_42 rfl rfl ?_
      refine k_istore_n (L' := [_, _, _]) dX12_dolls_43 (Nat.le_of_ble_eq_true rfl) rfl ?_
      refine k_iinc (L' := [_, _, _]) dX12_dolls_44 rfl (Nat.le_of_ble_eq_true rfl) rfl ?_
      refine k_goto 4 dX12_dolls_47 (by decide) ?_
      first | (rw [if_pos h32] at ih; exact ih _ (hg.tr hF.kind)) | (rw [if_neg h32] at ih; rw [Nat.or_zero]; exact ih _ (hg.tr hF.kind))
    · skip
      refine k_iconst dX12_dolls_35 ?_
      refine k_iload_n dX12_dolls_36 rfl ?_
      refine k_ishl c dX12_dolls_37 rfl (by omega) ?_
      refine k_goto 42 dX12_dolls_38 (by decide) ?_
      refine k_ior _ _ dX12_dolls_42 rfl rfl ?_
      refine k_istore_n (L' := [_, _, _]) dX12_dolls_43 (Nat.le_of_ble_eq_true rfl) rfl ?_
      refine k_iinc (L' := [_, _, _]) dX12_dolls_44 rfl (Nat.le_of_ble_eq_true rfl) rfl ?_
      refine k_goto 4 dX12_dolls_47 (by decide) ?_
      first | (rw [if_pos h32] at ih; exact ih _ (hg.tr hF.kind)) | (rw [if_neg h32] at ih; rw [Nat.or_zero]; exact ih _ (hg.tr hF.kind))
theorem m_xDolls {V G : Mem} (hV : Vok V) (hD : Dok V) (hN : NW V G) (hR : RD V G)  : MP M_X12_dolls [.ref 86] G (vi fun v g => ((vDolls V (V 0 2).toNat : Nat) : Int) = v ∧ SC G g) := by
  refine MP.of [some (.ref 86), none, none] (plainFor_of_name pn_X12) (Nat.le_of_ble_eq_true rfl) rfl ?_
  refine k_iconst dX12_dolls_0 ?_
  refine k_istore_n (L' := [_, _, _]) dX12_dolls_1 (Nat.le_of_ble_eq_true rfl) rfl ?_
  refine k_iconst dX12_dolls_2 ?_
  refine k_istore_n (L' := [_, _, _]) dX12_dolls_3 (Nat.le_of_ble_eq_true rfl) rfl ?_
  refine (lp_xDolls hV hD hN hR 0 (by omega) G HF.rf).mono ?_
  rintro o k ⟨v, h1, h2, h5⟩
  exact ⟨v, h1, h2, h5.sc⟩
theorem q_fr_g {t b : Nat} : ∀ d : Nat, Nat.gcd t b ≤ d → 0 < Nat.gcd t b → q_fr (t : Int) (b : Int) d = (((t / Nat.gcd t b : Nat) : Int), ((b / Nat.gcd t b : Nat) : Int))
  | 0, h, h0 => absurd h (by omega)
  | d + 1, h, h0 => by
    have e := q_fr.eq_2 (t : Int) (b : Int) d
    have et : ((t : Int) % ((d + 1 : Nat) : Int) = 0) ↔ (d + 1) ∣ t := by rw [show (t : Int) % ((d + 1 : Nat) : Int) = ((t % (d + 1) : Nat) : Int) from rfl, Nat.dvd_iff_mod_eq_zero]; exact ⟨fun h => Int.ofNat.inj h, fun h => by rw [h]; rfl⟩
    have eb : ((b : Int) % ((d + 1 : Nat) : Int) = 0) ↔ (d + 1) ∣ b := by rw [show (b : Int) % ((d + 1 : Nat) : Int) = ((b % (d + 1) : Nat) : Int) from rfl, Nat.dvd_iff_mod_eq_zero]; exact ⟨fun h => Int.ofNat.inj h, fun h => by rw [h]; rfl⟩
    by_cases hd : d + 1 = Nat.gcd t b
    · have h1 : (d + 1) ∣ t := hd ▸ Nat.gcd_dvd_left t b
      have h2 : (d + 1) ∣ b := hd ▸ Nat.gcd_dvd_right t b
      by_cases h3 : 1 < d + 1
      · rw [e, if_pos ⟨by omega, et.mpr h1, eb.mpr h2⟩, ← hd]
        rfl
      · rw [e, if_neg (fun q => h3 (by omega)), q_fr1 d (by omega), ← hd, show d + 1 = 1 by omega, Nat.div_one, Nat.div_one]
    · rw [e, if_neg (fun q => ?_)]
      · exact q_fr_g d (by omega) h0
      · have k : (d + 1) ∣ Nat.gcd t b := Nat.dvd_gcd (et.mp q.2.1) (eb.mp q.2.2)
        have := Nat.le_of_dvd h0 k
        omega
def xFr (G : Mem) (t b : Int) : Mem := ug (ug G 86 4 (q_fr t b b.toNat).1) 86 5 (q_fr t b b.toNat).2
theorem lp_fraction {G : Mem} {t b : Nat} (ht : t ≤ 5000) (hb : b ≤ 30) (hb0 : 0 < b) : ∀ (n x y : Nat) (j5 : Option Value), y < n → x ≤ 5000 → y ≤ 30 → Nat.gcd x y = Nat.gcd t b → RP M_X12_fraction 5 [some (.ref 86), some (.int (iI (t : Int))), some (.int (iI (b : Int))), some (.int (iI (x : Int))), some (.int (iI (y : Int))), j5] [] G (vv fun g => xFr G t b = g) := by
  have hg0 : 0 < Nat.gcd t b := Nat.gcd_pos_of_pos_right _ hb0
  have hgb : Nat.gcd t b ≤ b := Nat.le_of_dvd hb0 (Nat.gcd_dvd_right t b)
  have eq := q_fr_g (t := t) (b := b) b hgb hg0
  have b1 := Nat.div_le_self t (Nat.gcd t b)
  have b2 := Nat.div_le_self b (Nat.gcd t b)
  intro n
  induction n with
  | zero => intro x y j5 h; exact absurd h (by omega)
  | succ n ih =>
    intro x y j5 hn hx hy hg
    rcases (show y = 0 ∨ 0 < y by omega) with hy0 | hy0
    · subst hy0
      rw [Nat.gcd_zero_right] at hg
      subst hg
      refine k_iload dX12_fraction_5 rfl ?_
      refine k_if_eq 26 dX12_fraction_7 (by decide) ⟨by omega, by omega⟩ (fun h7 => ?_) (fun h7 => absurd h7 (by omega))
      refine k_aload_n dX12_fraction_26 rfl ?_
      refine k_iload_n dX12_fraction_27 rfl ?_
      refine k_iload_n dX12_fraction_28 rfl ?_
      refine k_idiv dX12_fraction_29 (by omega) (by omega) ?_
      rw [show (t : Int) / ((Nat.gcd t b : Nat) : Int) = ((t / Nat.gcd t b : Nat) : Int) from rfl]
      have h30 : 0 ≤ ((t / Nat.gcd t b : Nat) : Int) := Int.natCast_nonneg _
      refine k_i2l dX12_fraction_30 ⟨by omega, by omega⟩ ?_
      refine k_putL dX12_fraction_31 f_X12_202 (Nat.le_of_ble_eq_true rfl) sh_o86 (fun _ => (Nat.le_of_ble_eq_true rfl)) rfl (fun _ => rfl) ?_
      refine k_aload_n dX12_fraction_34 rfl ?_
      refine k_iload_n dX12_fraction_35 rfl ?_
      refine k_iload_n dX12_fraction_36 rfl ?_
      refine k_idiv dX12_fraction_37 (by omega) (by omega) ?_
      rw [show (b : Int) / ((Nat.gcd t b : Nat) : Int) = ((b / Nat.gcd t b : Nat) : Int) from rfl]
      have h38 : 0 ≤ ((b / Nat.gcd t b : Nat) : Int) := Int.natCast_nonneg _
      refine k_i2l dX12_fraction_38 ⟨by omega, by omega⟩ ?_
      refine k_putL dX12_fraction_39 f_X12_23 (Nat.le_of_ble_eq_true rfl) sh_o86 (fun _ => (Nat.le_of_ble_eq_true rfl)) rfl (fun _ => rfl) ?_
      exact k_ret dX12_fraction_42 rfl ⟨rfl, by unfold xFr; rw [Int.toNat_natCast, eq]⟩
    · skip
      refine k_iload dX12_fraction_5 rfl ?_
      refine k_if_eq 26 dX12_fraction_7 (by decide) ⟨by omega, by omega⟩ (fun h7 => absurd h7 (by omega)) (fun h7 => ?_)
      refine k_iload_n dX12_fraction_10 rfl ?_
      refine k_iload dX12_fraction_11 rfl ?_
      refine k_irem dX12_fraction_13 (by omega) (by omega) ?_
      refine k_istore (L' := [_, _, _, _, _, _]) dX12_fraction_14 (Nat.le_of_ble_eq_true rfl) rfl ?_
      refine k_iload dX12_fraction_16 rfl ?_
      refine k_istore_n (L' := [_, _, _, _, _, _]) dX12_fraction_18 (Nat.le_of_ble_eq_true rfl) rfl ?_
      refine k_iload dX12_fraction_19 rfl ?_
      refine k_istore (L' := [_, _, _, _, _, _]) dX12_fraction_21 (Nat.le_of_ble_eq_true rfl) rfl ?_
      refine k_goto 5 dX12_fraction_23 (by decide) ?_
      rw [show (x : Int) % (y : Int) = ((x % y : Nat) : Int) from rfl]
      have hm := Nat.mod_lt x hy0
      exact ih y (x % y) _ (by omega) (by omega) (by omega) (by rw [← hg, Nat.gcd_comm x y, Nat.gcd_rec y x, Nat.gcd_comm])
theorem m_xFraction {G : Mem} {t b : Int} (ht : 0 ≤ t ∧ t ≤ 5000) (hb : 0 < b ∧ b ≤ 30) : MP M_X12_fraction [.ref 86, .int (iI t), .int (iI b)] G (vv fun g => xFr G t b = g) := by
  obtain ⟨t, rfl⟩ : ∃ k : Nat, t = (k : Int) := ⟨t.toNat, by omega⟩
  obtain ⟨b, rfl⟩ : ∃ k : Nat, b = (k : Int) := ⟨b.toNat, by omega⟩
  refine MP.of [some (.ref 86), some (.int (iI t)), some (.int (iI b)), none, none, none] (plainFor_of_name pn_X12) (Nat.le_of_ble_eq_true rfl) rfl ?_
  refine k_iload_n dX12_fraction_0 rfl ?_
  refine k_istore_n (L' := [_, _, _, _, _, _]) dX12_fraction_1 (Nat.le_of_ble_eq_true rfl) rfl ?_
  refine k_iload_n dX12_fraction_2 rfl ?_
  refine k_istore (L' := [_, _, _, _, _, _]) dX12_fraction_3 (Nat.le_of_ble_eq_true rfl) rfl ?_
  exact lp_fraction (by omega) (by omega) (by omega) (b + 1) t b _ (by omega) (by omega) (by omega) rfl
/-- who is sick, by the numbers drawn -/
def q_sick (w x0 : Int) : Nat → Nat
  | 0 => 0
  | k + 1 => if q_lcg (q_well w x0 k).1 / 65536 % 100 < w then q_sick w x0 k ||| 2 ^ k else q_sick w x0 k
theorem sick_d : ∀ c : Nat, c < 6 → ∀ s : Nat, s < 64 → s < 2 ^ c → ((2 ^ (c + 1) - 1) &&& (63 ^^^ (s ||| 2 ^ c)) = (2 ^ c - 1) &&& (63 ^^^ s)) ∧ ((2 ^ (c + 1) - 1) &&& (63 ^^^ s) = ((2 ^ c - 1) &&& (63 ^^^ s)) ||| 2 ^ c) ∧ s ||| 2 ^ c < 2 ^ (c + 1) := by decide +kernel
theorem q_sick_w {w x0 : Int} : ∀ c : Nat, c ≤ 6 → q_sick w x0 c < 2 ^ c ∧ (2 ^ c - 1) &&& (63 ^^^ q_sick w x0 c) = (q_well w x0 c).2
  | 0, _ => ⟨by show 0 < 2 ^ 0; decide, Nat.zero_and _⟩
  | c + 1, h => by
    have ih := q_sick_w (w := w) (x0 := x0) c (by omega)
    have h2 : 2 ^ c ≤ 2 ^ 6 := Nat.pow_le_pow_right (by decide) (by omega)
    have d := sick_d c (by omega) (q_sick w x0 c) (by omega) ih.1
    have e2 : (q_well w x0 (c + 1)).2 = if w ≤ q_lcg (q_well w x0 c).1 / 65536 % 100 then (q_well w x0 c).2 ||| 2 ^ c else (q_well w x0 c).2 := rfl
    show (if q_lcg (q_well w x0 c).1 / 65536 % 100 < w then q_sick w x0 c ||| 2 ^ c else q_sick w x0 c) < 2 ^ (c + 1) ∧ (2 ^ (c + 1) - 1) &&& (63 ^^^ (if q_lcg (q_well w x0 c).1 / 65536 % 100 < w then q_sick w x0 c ||| 2 ^ c else q_sick w x0 c)) = _
    rw [e2]
    by_cases z : q_lcg (q_well w x0 c).1 / 65536 % 100 < w
    · rw [if_pos z, if_neg (by omega), ← ih.2]
      exact ⟨d.2.2, d.1⟩
    · rw [if_neg z, if_pos (by omega), ← ih.2]
      refine ⟨?_, d.2.1⟩
      have := ih.1
      rw [Nat.pow_succ]
      omega
theorem lp_xDaysIn {V G g : Mem} (hV : Vok V) (h0 : g 87 0 = V 0 2) {sd n w x0 sum d : Int} (hw : 0 ≤ w ∧ w ≤ 100) (hx : 0 ≤ x0 ∧ x0 < 2147483648) {Post : Option Value → Mem → Prop} (hk : RP M_X12_days 134 [some (.ref 86), some (.int (iI sd)), some (.int (iI n)), some (.int (iI w)), some (.long (lI (q_well w x0 (V 0 2).toNat).1)), none, some (.int (iI sum)), some (.int (iI d)), some (.int (iI ((q_sick w x0 (V 0 2).toNat : Nat) : Int))), some (.int (iI ((V 0 2).toNat : Int)))] [] g Post) : ∀ c : Nat, c ≤ (V 0 2).toNat → RP M_X12_days 74 [some (.ref 86), some (.int (iI sd)), some (.int (iI n)), some (.int (iI w)), some (.long (lI (q_well w x0 c).1)), none, some (.int (iI sum)), some (.int (iI d)), some (.int (iI ((q_sick w x0 c : Nat) : Int))), some (.int (iI (c : Int)))] [] g Post := by
  have hn := hV.2.2.1
  refine cnt ?_ (fun c hc ih => ?_)
  · skip
    refine k_iload dX12_days_74 rfl ?_
    refine k_aload_n dX12_days_76 rfl ?_
    refine k_callVi [] dX12_days_77 s_X12_days_61 rfl m_xChildren rfl (Nat.le_of_ble_eq_true rfl) sh_o86 ⟨_, rfl, rfl⟩ (Nat.le_of_ble_eq_true rfl) ?_
    rintro _ _ ⟨rfl, rfl⟩
    refine k_icmp_ge 134 dX12_days_80 (by decide) ⟨by omega, by omega⟩ ⟨by omega, by omega⟩ (fun h80 => ?_) (fun h80 => absurd h80 (by omega))
    exact hk
  · skip
    have bw := q_well_b (w := w) hx c (by omega)
    have e : (q_well w x0 (c + 1)).1 = q_lcg (q_well w x0 c).1 := rfl
    have e2 : q_sick w x0 (c + 1) = if q_lcg (q_well w x0 c).1 / 65536 % 100 < w then q_sick w x0 c ||| 2 ^ c else q_sick w x0 c := rfl
    have bl := q_lcg_b (x := (q_well w x0 c).1)
    rw [e, e2] at ih
    refine k_iload dX12_days_74 rfl ?_
    refine k_aload_n dX12_days_76 rfl ?_
    refine k_callVi [] dX12_days_77 s_X12_days_61 rfl m_xChildren rfl (Nat.le_of_ble_eq_true rfl) sh_o86 ⟨_, rfl, rfl⟩ (Nat.le_of_ble_eq_true rfl) ?_
    rintro _ _ ⟨rfl, rfl⟩
    refine k_icmp_ge 134 dX12_days_80 (by decide) ⟨by omega, by omega⟩ ⟨by omega, by omega⟩ (fun h80 => absurd h80 (by omega)) (fun h80 => ?_)
    refine k_lload dX12_days_83 rfl ?_
    refine k_ldc2 1103515245 dX12_days_85 w_1142 ?_
    refine k_lmul dX12_days_88 ?_
    refine k_ldc2 12345 dX12_days_89 w_1143 ?_
    refine k_ladd dX12_days_92 ?_
    refine k_ldc2 2147483648 dX12_days_93 w_1144 ?_
    refine k_lrem dX12_days_96 (by omega) (by omega) ?_
    rw [show ((q_well w x0 c).1 * 1103515245 + 12345) % 2147483648 = q_lcg (q_well w x0 c).1 from rfl]
    refine k_lstore (L' := [_, _, _, _, _, _, _, _, _, _]) dX12_days_97 (Nat.le_of_ble_eq_true rfl) rfl ?_
    refine k_iload dX12_days_99 rfl ?_
    refine k_lload dX12_days_101 rfl ?_
    refine k_ldc2 65536 dX12_days_103 w_1145 ?_
    refine k_ldiv dX12_days_106 (by omega) (by omega) ?_
    refine k_ldc2 100 dX12_days_107 w_1141 ?_
    refine k_lrem dX12_days_110 (by omega) (by omega) ?_
    refine k_iload_n dX12_days_111 rfl ?_
    refine k_i2l dX12_days_112 ⟨by omega, by omega⟩ ?_
    refine k_lcmp dX12_days_113 ⟨by omega, by omega⟩ ⟨by omega, by omega⟩ ?_
    refine k_if_ge 124 dX12_days_114 (by decide) (by split <;> (try split) <;> decide) (fun h114 => ?_) (fun h114 => ?_)
    · skip
      refine k_iconst dX12_days_124 ?_
      refine k_ior _ 0 dX12_days_125 rfl rfl ?_
      refine k_istore (L' := [_, _, _, _, _, _, _, _, _, _]) dX12_days_126 (Nat.le_of_ble_eq_true rfl) rfl ?_
      refine k_iinc (L' := [_, _, _, _, _, _, _, _, _, _]) dX12_days_128 rfl (Nat.le_of_ble_eq_true rfl) rfl ?_
      refine k_goto 74 dX12_days_131 (by decide) ?_
      first | (rw [if_neg (by omega)] at ih; rw [Nat.or_zero]; exact ih) | (rw [if_pos (by omega)] at ih; exact ih)
    · skip
      refine k_iconst dX12_days_117 ?_
      refine k_iload dX12_days_118 rfl ?_
      refine k_ishl c dX12_days_120 rfl (by omega) ?_
      refine k_goto 125 dX12_days_121 (by decide) ?_
      refine k_ior _ _ dX12_days_125 rfl rfl ?_
      refine k_istore (L' := [_, _, _, _, _, _, _, _, _, _]) dX12_days_126 (Nat.le_of_ble_eq_true rfl) rfl ?_
      refine k_iinc (L' := [_, _, _, _, _, _, _, _, _, _]) dX12_days_128 rfl (Nat.le_of_ble_eq_true rfl) rfl ?_
      refine k_goto 74 dX12_days_131 (by decide) ?_
      first | (rw [if_neg (by omega)] at ih; rw [Nat.or_zero]; exact ih) | (rw [if_pos (by omega)] at ih; exact ih)
theorem lp_xDays {V G : Mem} (hV : Vok V) (hN : NW V G) {sd n w : Int} (hn0 : 0 < n ∧ n ≤ 30) (hw : 0 ≤ w ∧ w ≤ 100) (hx : 0 ≤ sd ∧ sd < 2147483648) : ∀ d : Nat, d ≤ n.toNat → ∀ (g : Mem) (j8 j9 : Option Value), HF G g → RP M_X12_days 62 [some (.ref 86), some (.int (iI sd)), some (.int (iI n)), some (.int (iI w)), some (.long (lI (vDays V w sd d).1)), none, some (.int (iI (vDays V w sd d).2)), some (.int (iI (d : Int))), j8, j9] [] g (vi fun v k => 1 = v ∧ ∃ g0, HF G g0 ∧ xFr g0 (vDays V w sd n.toNat).2 n = k) := by
  have hn := hV.2.2.1
  have hset := vAll_lt hV
  refine cnt (fun g j8 j9 hg => ?_) (fun d hd ih g j8 j9 hg => ?_)
  · have bd := vDays_b hV (w := w) hx n.toNat
    refine k_iload dX12_days_62 rfl ?_
    refine k_iload_n dX12_days_64 rfl ?_
    refine k_icmp_ge 163 dX12_days_65 (by decide) ⟨by omega, by omega⟩ ⟨by omega, by omega⟩ (fun h65 => ?_) (fun h65 => absurd h65 (by omega))
    refine k_aload_n dX12_days_163 rfl ?_
    refine k_iload dX12_days_164 rfl ?_
    refine k_iload_n dX12_days_166 rfl ?_
    refine k_callVv [.int (iI _), .int (iI _)] dX12_days_167 s_X12_days_219 rfl (m_xFraction (by omega) hn0) rfl (Nat.le_of_ble_eq_true rfl) sh_o86 ⟨_, rfl, rfl⟩ (Nat.le_of_ble_eq_true rfl) ?_
    rintro _ rfl
    refine k_iconst dX12_days_170 ?_
    exact k_iret dX12_days_171 rfl ⟨_, rfl, rfl, _, hg, rfl⟩
  · skip
    have bd := vDays_b hV (w := w) hx d
    have bw := q_well_b (w := w) bd.1 (V 0 2).toNat (by omega)
    have hk := q_sick_w (w := w) (x0 := (vDays V w sd d).1) (V 0 2).toNat (by omega)
    have h26 : 2 ^ (V 0 2).toNat ≤ 2 ^ 6 := Nat.pow_le_pow_right (by decide) (by omega)
    have hk2 : vAll V &&& (63 ^^^ q_sick w (vDays V w sd d).1 (V 0 2).toNat) = (q_well w (vDays V w sd d).1 (V 0 2).toNat).2 := hk.2
    have h0 := (hN.hf hg).1.1
    refine k_iload dX12_days_62 rfl ?_
    refine k_iload_n dX12_days_64 rfl ?_
    refine k_icmp_ge 163 dX12_days_65 (by decide) ⟨by omega, by omega⟩ ⟨by omega, by omega⟩ (fun h65 => absurd h65 (by omega)) (fun h65 => ?_)
    refine k_iconst dX12_days_68 ?_
    refine k_istore (L' := [_, _, _, _, _, _, _, _, _, _]) dX12_days_69 (Nat.le_of_ble_eq_true rfl) rfl ?_
    refine k_iconst dX12_days_71 ?_
    refine k_istore (L' := [_, _, _, _, _, _, _, _, _, _]) dX12_days_72 (Nat.le_of_ble_eq_true rfl) rfl ?_
    refine lp_xDaysIn (G := G) hV h0 hw bd.1 ?_ 0 (by omega)
    refine k_aload_n dX12_days_134 rfl ?_
    refine k_aload_n dX12_days_135 rfl ?_
    refine k_callVi [] dX12_days_136 s_X12_days_152 rfl (NW.all (hN.hf hg) hV) rfl (Nat.le_of_ble_eq_true rfl) sh_o86 ⟨_, rfl, rfl⟩ (Nat.le_of_ble_eq_true rfl) ?_
    rintro _ _ ⟨rfl, rfl⟩
    refine k_iload dX12_days_139 rfl ?_
    refine k_iconst dX12_days_141 ?_
    refine k_not (q_sick w (vDays V w sd d).1 (V 0 2).toNat) dX12_days_142 rfl (by omega) ?_
    refine k_iandn (vAll V) (q_sick w (vDays V w sd d).1 (V 0 2).toNat) dX12_days_143 rfl rfl hset (by omega) ?_
    rw [hk2]
    refine k_callVv [.int (iI _)] dX12_days_144 s_X12_days_155 rfl (m_xLayHand hV (hN.hf hg)) rfl (Nat.le_of_ble_eq_true rfl) sh_o86 ⟨_, rfl, rfl⟩ (Nat.le_of_ble_eq_true rfl) ?_
    rintro g1 ⟨hF, hH⟩
    refine k_iload dX12_days_147 rfl ?_
    refine k_aload_n dX12_days_149 rfl ?_
    refine k_iconst dX12_days_150 ?_
    refine k_callVi [.int (iI _)] dX12_days_151 s_X12_days_165 rfl (m_xThereFrom hV bw.2 hH (by omega)) rfl (Nat.le_of_ble_eq_true rfl) sh_o86 ⟨_, rfl, rfl⟩ (Nat.le_of_ble_eq_true rfl) ?_
    rintro _ _ ⟨rfl, rfl⟩
    refine k_iadd dX12_days_154 ?_
    refine k_istore (L' := [_, _, _, _, _, _, _, _, _, _]) dX12_days_155 (Nat.le_of_ble_eq_true rfl) rfl ?_
    refine k_iinc (L' := [_, _, _, _, _, _, _, _, _, _]) dX12_days_157 rfl (Nat.le_of_ble_eq_true rfl) rfl ?_
    refine k_goto 62 dX12_days_160 (by decide) ?_
    exact ih _ _ _ (hg.tr hF)
theorem m_xDays {V G : Mem} (hV : Vok V) (hN : NW V G) {s n w : Int} (hs : R32 s) (hn1 : R32 n) (hw : R32 w) : MP M_X12_days [.ref 86, .int (iI s), .int (iI n), .int (iI w)] G (vi fun v g => if (0 ≤ s ∧ s ≤ 999999) ∧ (0 ≤ n ∧ n ≤ 30) ∧ (0 ≤ w ∧ w ≤ 100) then (if n = 0 then (-3 = v ∧ xN G = g) else (1 = v ∧ ∃ g0, HF G g0 ∧ xFr g0 (vDays V w s n.toNat).2 n = g)) else (-2 = v ∧ xB G = g)) := by
  have h0 := hN.1.1
  have hn := hV.2.2.1
  have hset := vAll_lt hV
  refine MP.of [some (.ref 86), some (.int (iI s)), some (.int (iI n)), some (.int (iI w)), none, none, none, none, none, none] (plainFor_of_name pn_X12) (Nat.le_of_ble_eq_true rfl) rfl ?_
  refine k_iload_n dX12_days_0 rfl ?_
  refine k_i2l dX12_days_1 ⟨by omega, by omega⟩ ?_
  refine k_lconst dX12_days_2 ?_
  refine k_ldc2 999999 dX12_days_3 w_1139 ?_
  refine k_callSi [.long (lI _), .long (lI _), .long (lI _)] dX12_days_6 s_X12_days_65 rfl (m_xIn (by first | assumption | exact ⟨by omega, by omega⟩) (by first | assumption | exact ⟨by omega, by omega⟩) (by first | assumption | exact ⟨by omega, by omega⟩)) rfl (Nat.le_of_ble_eq_true rfl) ?_
  rintro _ _ ⟨rfl, rfl⟩
  refine k_ifb_eq 36 dX12_days_9 (by decide) (fun h9 => ?_) (fun h9 => ?_)
  · skip
    refine k_aload_n dX12_days_36 rfl ?_
    refine k_bipush dX12_days_37 (by decide) ?_
    refine k_callVi [.int (iI _)] dX12_days_39 s_X12_days_75 rfl m_xBad rfl (Nat.le_of_ble_eq_true rfl) sh_o86 ⟨_, rfl, rfl⟩ (Nat.le_of_ble_eq_true rfl) ?_
    rintro _ _ ⟨rfl, rfl⟩
    exact k_iret dX12_days_42 rfl ⟨_, rfl, by (try dsimp only); first | (rw [if_neg (by omega)]; exact ⟨rfl, rfl⟩) | (rw [if_pos (by omega)]; rw [if_pos (by omega)]; exact ⟨rfl, rfl⟩)⟩
  · skip
    refine k_iload_n dX12_days_12 rfl ?_
    refine k_i2l dX12_days_13 ⟨by omega, by omega⟩ ?_
    refine k_lconst dX12_days_14 ?_
    refine k_ldc2 30 dX12_days_15 w_1140 ?_
    refine k_callSi [.long (lI _), .long (lI _), .long (lI _)] dX12_days_18 s_X12_days_65 rfl (m_xIn (by first | assumption | exact ⟨by omega, by omega⟩) (by first | assumption | exact ⟨by omega, by omega⟩) (by first | assumption | exact ⟨by omega, by omega⟩)) rfl (Nat.le_of_ble_eq_true rfl) ?_
    rintro _ _ ⟨rfl, rfl⟩
    refine k_ifb_eq 36 dX12_days_21 (by decide) (fun h21 => ?_) (fun h21 => ?_)
    · skip
      refine k_aload_n dX12_days_36 rfl ?_
      refine k_bipush dX12_days_37 (by decide) ?_
      refine k_callVi [.int (iI _)] dX12_days_39 s_X12_days_75 rfl m_xBad rfl (Nat.le_of_ble_eq_true rfl) sh_o86 ⟨_, rfl, rfl⟩ (Nat.le_of_ble_eq_true rfl) ?_
      rintro _ _ ⟨rfl, rfl⟩
      exact k_iret dX12_days_42 rfl ⟨_, rfl, by (try dsimp only); first | (rw [if_neg (by omega)]; exact ⟨rfl, rfl⟩) | (rw [if_pos (by omega)]; rw [if_pos (by omega)]; exact ⟨rfl, rfl⟩)⟩
    · skip
      refine k_iload_n dX12_days_24 rfl ?_
      refine k_i2l dX12_days_25 ⟨by omega, by omega⟩ ?_
      refine k_lconst dX12_days_26 ?_
      refine k_ldc2 100 dX12_days_27 w_1141 ?_
      refine k_callSi [.long (lI _), .long (lI _), .long (lI _)] dX12_days_30 s_X12_days_65 rfl (m_xIn (by first | assumption | exact ⟨by omega, by omega⟩) (by first | assumption | exact ⟨by omega, by omega⟩) (by first | assumption | exact ⟨by omega, by omega⟩)) rfl (Nat.le_of_ble_eq_true rfl) ?_
      rintro _ _ ⟨rfl, rfl⟩
      refine k_ifb_ne 43 dX12_days_33 (by decide) (fun h33 => ?_) (fun h33 => ?_)
      · skip
        refine k_iload_n dX12_days_43 rfl ?_
        refine k_if_ne 52 dX12_days_44 (by decide) ⟨by omega, by omega⟩ (fun h44 => ?_) (fun h44 => ?_)
        · skip
          refine k_iload_n dX12_days_52 rfl ?_
          refine k_i2l dX12_days_53 ⟨by omega, by omega⟩ ?_
          refine k_lstore (L' := [_, _, _, _, _, _, _, _, _, _]) dX12_days_54 (Nat.le_of_ble_eq_true rfl) rfl ?_
          refine k_iconst dX12_days_56 ?_
          refine k_istore (L' := [_, _, _, _, _, _, _, _, _, _]) dX12_days_57 (Nat.le_of_ble_eq_true rfl) rfl ?_
          refine k_iconst dX12_days_59 ?_
          refine k_istore (L' := [_, _, _, _, _, _, _, _, _, _]) dX12_days_60 (Nat.le_of_ble_eq_true rfl) rfl ?_
          refine (lp_xDays hV hN ⟨by omega, by omega⟩ ⟨by omega, by omega⟩ ⟨by omega, by omega⟩ 0 (by omega) G _ _ HF.rf).mono ?_
          rintro o k ⟨v, h1, h2, h5⟩
          exact ⟨v, h1, by dsimp only; rw [if_pos (by omega), if_neg (by omega)]; exact ⟨h2, h5⟩⟩
        · skip
          refine k_aload_n dX12_days_47 rfl ?_
          refine k_callVi [] dX12_days_48 s_X12_days_112 rfl m_xNo rfl (Nat.le_of_ble_eq_true rfl) sh_o86 ⟨_, rfl, rfl⟩ (Nat.le_of_ble_eq_true rfl) ?_
          rintro _ _ ⟨rfl, rfl⟩
          exact k_iret dX12_days_51 rfl ⟨_, rfl, by (try dsimp only); first | (rw [if_neg (by omega)]; exact ⟨rfl, rfl⟩) | (rw [if_pos (by omega)]; rw [if_pos (by omega)]; exact ⟨rfl, rfl⟩)⟩
      · skip
        refine k_aload_n dX12_days_36 rfl ?_
        refine k_bipush dX12_days_37 (by decide) ?_
        refine k_callVi [.int (iI _)] dX12_days_39 s_X12_days_75 rfl m_xBad rfl (Nat.le_of_ble_eq_true rfl) sh_o86 ⟨_, rfl, rfl⟩ (Nat.le_of_ble_eq_true rfl) ?_
        rintro _ _ ⟨rfl, rfl⟩
        exact k_iret dX12_days_42 rfl ⟨_, rfl, by (try dsimp only); first | (rw [if_neg (by omega)]; exact ⟨rfl, rfl⟩) | (rw [if_pos (by omega)]; rw [if_pos (by omega)]; exact ⟨rfl, rfl⟩)⟩
