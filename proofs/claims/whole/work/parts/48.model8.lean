/-! ===== the Model: read ===== -/
theorem tLn_b {T : Nat → Int} {L p : Nat} (hp : p ≤ L) : tSk T L p + tLn T L (tSk T L p) ≤ L := by
  have h := tSk_b (T := T) hp
  unfold tLn
  split
  · omega
  · next h1 =>
    split
    · next h2 => have := tEn_p (T := T) (L := L) (by omega) h2; omega
    · split
      · next h3 => have := tEn_p (T := T) (L := L) (by omega) h3; omega
      · omega
/-- a kind, a length, a word -/
theorem wEq_s {T : Nat → Int} {u q i : Nat} : wEq T u q (i + 1) = true ↔ wEq T u q i = true ∧ T (q + i) = (q_ch u i : Int) := by
  show (wEq T u q i && (T (q + i) == (q_ch u i : Int))) = true ↔ _
  rw [Bool.and_eq_true, beq_iff_eq]
theorem wEq_4 {T : Nat → Int} {q : Nat} : wEq T 0 q 4 = true ↔ T (q + 0) = 114 ∧ T (q + 1) = 111 ∧ T (q + 2) = 97 ∧ T (q + 3) = 100 := by
  rw [wEq_s, wEq_s, wEq_s, wEq_s]
  show (((true = true ∧ T (q + 0) = 114) ∧ T (q + 1) = 111) ∧ T (q + 2) = 97) ∧ T (q + 3) = 100 ↔ _
  constructor
  · rintro ⟨⟨⟨⟨_, a⟩, b⟩, c⟩, d⟩; exact ⟨a, b, c, d⟩
  · rintro ⟨a, b, c, d⟩; exact ⟨⟨⟨⟨rfl, a⟩, b⟩, c⟩, d⟩
theorem wEq_5 {T : Nat → Int} {q : Nat} : wEq T 1 q 5 = true ↔ T (q + 0) = 99 ∧ T (q + 1) = 104 ∧ T (q + 2) = 105 ∧ T (q + 3) = 108 ∧ T (q + 4) = 100 := by
  rw [wEq_s, wEq_s, wEq_s, wEq_s, wEq_s]
  show ((((true = true ∧ T (q + 0) = 99) ∧ T (q + 1) = 104) ∧ T (q + 2) = 105) ∧ T (q + 3) = 108) ∧ T (q + 4) = 100 ↔ _
  constructor
  · rintro ⟨⟨⟨⟨⟨_, a⟩, b⟩, c⟩, d⟩, e⟩; exact ⟨a, b, c, d, e⟩
  · rintro ⟨a, b, c, d, e⟩; exact ⟨⟨⟨⟨⟨rfl, a⟩, b⟩, c⟩, d⟩, e⟩
theorem tKd_1 {T : Nat → Int} {L s : Nat} : tKd T L s = 1 ↔ s < L ∧ 97 ≤ T s ∧ T s ≤ 122 := by
  unfold tKd
  repeat' split
  all_goals omega
theorem tKd_3 {T : Nat → Int} {L s : Nat} : tKd T L s = 3 ↔ s < L ∧ T s = 59 := by
  unfold tKd
  repeat' split
  all_goals omega
theorem tKd_0 {T : Nat → Int} {L s : Nat} : tKd T L s = 0 ↔ L ≤ s := by
  unfold tKd
  repeat' split
  all_goals omega
theorem tKd_2 {T : Nat → Int} {L s : Nat} : tKd T L s = 2 ↔ s < L ∧ (48 ≤ T s ∧ T s ≤ 57) ∧ tEn T L 48 57 s ≤ s + 2 := by
  unfold tKd
  repeat' split
  all_goals omega
theorem tKd_b {T : Nat → Int} {L s : Nat} : 0 ≤ tKd T L s ∧ tKd T L s ≤ 4 := by
  unfold tKd
  repeat' split
  all_goals omega
theorem wOk_iff {T : Nat → Int} {L u p m : Nat} (hm : q_sl u = m) (h0 : 0 < m) : wOk T L u p = true ↔ tKd T L (tSk T L p) = 1 ∧ tLn T L (tSk T L p) = m ∧ wEq T u (tSk T L p) m = true := by
  unfold wOk
  rw [Bool.and_eq_true, Bool.and_eq_true, decide_eq_true_iff, decide_eq_true_iff, hm, tKd_1]
  constructor
  · rintro ⟨h1, h2, h3⟩
    have hc : 97 ≤ T (tSk T L p) ∧ T (tSk T L p) ≤ 122 := Classical.byContradiction (fun q => by rw [tEn_0 q] at h2; omega)
    refine ⟨⟨h1, hc⟩, ?_, h3⟩
    unfold tLn
    rw [if_neg (by omega), if_pos hc]
    omega
  · rintro ⟨⟨h1, hc⟩, h2, h3⟩
    unfold tLn at h2
    rw [if_neg (by omega), if_pos hc] at h2
    exact ⟨h1, by omega, h3⟩
theorem nVal_k {T : Nat → Int} {L p : Nat} {lo hi : Int} (hlo : 0 ≤ lo) : nVal T L lo hi p = (if tKd T L (tSk T L p) = 2 ∧ lo ≤ q_num T (tSk T L p) (tEn T L 48 57 (tSk T L p) - tSk T L p) ∧ q_num T (tSk T L p) (tEn T L 48 57 (tSk T L p) - tSk T L p) ≤ hi then q_num T (tSk T L p) (tEn T L 48 57 (tSk T L p) - tSk T L p) else -1) := by
  by_cases h1 : L ≤ tSk T L p
  · rw [nVal_1 h1, if_neg (fun q => by have := tKd_2.mp q.1; omega)]
  · by_cases hc : 48 ≤ T (tSk T L p) ∧ T (tSk T L p) ≤ 57
    · have hb := tEn_p (T := T) (L := L) (by omega) hc
      by_cases h2 : tSk T L p + 2 < tEn T L 48 57 (tSk T L p)
      · rw [nVal_2 h1 (Or.inr h2), if_neg (fun q => by have := tKd_2.mp q.1; omega)]
      · rw [nVal_3 h1 (by omega) rfl]
        by_cases h3 : q_num T (tSk T L p) (tEn T L 48 57 (tSk T L p) - tSk T L p) < lo ∨ hi < q_num T (tSk T L p) (tEn T L 48 57 (tSk T L p) - tSk T L p)
        · rw [if_pos h3, if_neg (fun q => by omega)]
        · rw [if_neg h3, if_pos ⟨tKd_2.mpr ⟨by omega, hc, by omega⟩, by omega, by omega⟩]
    · rw [nVal_2 h1 (Or.inl (tEn_0 hc)), if_neg (fun q => hc (tKd_2.mp q.1).2.1)]
theorem m_xGoBehind {T : Nat → Int} {L : Nat} {G : Mem} (hT : TB T) (hB : BT T L G) {p : Nat} (hp : p ≤ L) (hK : TKS T L p G)  : MP M_X12_goBehind [.ref 86] G (vv fun k => TF G k ∧ TKS T L ((tSk T L p) + tLn T L (tSk T L p)) k) := by
  have hb := tLn_b (T := T) hp
  have hl2 := hB.2.1
  have k1 := hK.1
  have k2 := hK.2.1
  refine MP.of [some (.ref 86)] (plainFor_of_name pn_X12) (Nat.le_of_ble_eq_true rfl) rfl ?_
  refine k_aload_n dX12_goBehind_0 rfl ?_
  refine k_aload_n dX12_goBehind_1 rfl ?_
  refine k_getI dX12_goBehind_2 f_X12_236 (Nat.le_of_ble_eq_true rfl) sh_o86 (fun _ => rfl) ?_
  refine k_aload_n dX12_goBehind_5 rfl ?_
  refine k_getI dX12_goBehind_6 f_X12_239 (Nat.le_of_ble_eq_true rfl) sh_o86 (fun _ => rfl) ?_
  refine k_iadd dX12_goBehind_9 ?_
  rw [show G 86 16 + G 86 17 = (((tSk T L p) + tLn T L (tSk T L p) : Nat) : Int) by omega]
  refine k_callVv [.int (iI _)] dX12_goBehind_10 s_X12_goBehind_254 rfl (m_xLookAt hT hB hb) rfl (Nat.le_of_ble_eq_true rfl) sh_o86 ⟨_, rfl, rfl⟩ (Nat.le_of_ble_eq_true rfl) ?_
  rintro g hg
  exact k_ret dX12_goBehind_13 rfl ⟨rfl, hg⟩
theorem m_xIsWRoad {T : Nat → Int} {L : Nat} {G : Mem} (hT : TB T) (hB : BT T L G) {p : Nat} (hp : p ≤ L) (hK : TKS T L p G)  : MP M_X12_isCalled [.ref 86, .int (iI 4), .int (iI 114), .int (iI 111), .int (iI 97), .int (iI 100), .int (iI 0)] G (vx (bI (wOk T L 0 p = true)) G) := by
  have hb := tLn_b (T := T) hp
  have hl2 := hB.2.1
  have k1 := hK.1
  have k2 := hK.2.1
  have k3 := hK.2.2.1
  have kb := tKd_b (T := T) (L := L) (s := (tSk T L p))
  have hw := wOk_iff (T := T) (L := L) (p := p) (u := 0) (m := 4) rfl (by decide)
  rw [wEq_4] at hw
  have c0 : tKd T L (tSk T L p) = 1 → tLn T L (tSk T L p) = 4 → G 98 ((tSk T L p) + 0) = T ((tSk T L p) + 0) := fun _ q => hB.2.2 _ (by omega)
  have t0 := hT ((tSk T L p) + 0)
  have c1 : tKd T L (tSk T L p) = 1 → tLn T L (tSk T L p) = 4 → G 98 ((tSk T L p) + 1) = T ((tSk T L p) + 1) := fun _ q => hB.2.2 _ (by omega)
  have t1 := hT ((tSk T L p) + 1)
  have c2 : tKd T L (tSk T L p) = 1 → tLn T L (tSk T L p) = 4 → G 98 ((tSk T L p) + 2) = T ((tSk T L p) + 2) := fun _ q => hB.2.2 _ (by omega)
  have t2 := hT ((tSk T L p) + 2)
  have c3 : tKd T L (tSk T L p) = 1 → tLn T L (tSk T L p) = 4 → G 98 ((tSk T L p) + 3) = T ((tSk T L p) + 3) := fun _ q => hB.2.2 _ (by omega)
  have t3 := hT ((tSk T L p) + 3)
  refine MP.of [some (.ref 86), some (.int (iI 4)), some (.int (iI 114)), some (.int (iI 111)), some (.int (iI 97)), some (.int (iI 100)), some (.int (iI 0)), none, none] (plainFor_of_name pn_X12) (Nat.le_of_ble_eq_true rfl) rfl ?_
  rcases (show (tKd T L (tSk T L p) = 1 ∧ tLn T L (tSk T L p) = 4) ∨ ¬ tKd T L (tSk T L p) = 1 ∨ (tKd T L (tSk T L p) = 1 ∧ ¬ tLn T L (tSk T L p) = 4) by omega) with hA | hA | hA
  · skip
    refine k_aload_n dX12_isCalled_0 rfl ?_
    refine k_getI dX12_isCalled_1 f_X12_242 (Nat.le_of_ble_eq_true rfl) sh_o86 (fun _ => rfl) ?_
    refine k_iconst dX12_isCalled_4 ?_
    refine k_icmp_ne 20 dX12_isCalled_5 (by decide) ⟨by omega, by omega⟩ ⟨by decide, by decide⟩ (fun h5 => absurd h5 (by omega)) (fun h5 => ?_)
    refine k_aload_n dX12_isCalled_8 rfl ?_
    refine k_getI dX12_isCalled_9 f_X12_239 (Nat.le_of_ble_eq_true rfl) sh_o86 (fun _ => rfl) ?_
    refine k_iload_n dX12_isCalled_12 rfl ?_
    refine k_icmp_ne 20 dX12_isCalled_13 (by decide) ⟨by omega, by omega⟩ ⟨by decide, by decide⟩ (fun h13 => absurd h13 (by omega)) (fun h13 => ?_)
    refine k_iconst dX12_isCalled_16 ?_
    refine k_goto 21 dX12_isCalled_17 (by decide) ?_
    refine k_istore (L' := [_, _, _, _, _, _, _, _, _]) dX12_isCalled_21 (Nat.le_of_ble_eq_true rfl) rfl ?_
    refine k_iconst dX12_isCalled_23 ?_
    refine k_istore (L' := [_, _, _, _, _, _, _, _, _]) dX12_isCalled_24 (Nat.le_of_ble_eq_true rfl) rfl ?_
    refine k_iload dX12_isCalled_26 rfl ?_
    refine k_iload_n dX12_isCalled_28 rfl ?_
    refine k_icmp_ge 108 dX12_isCalled_29 (by decide) ⟨by decide, by decide⟩ ⟨by decide, by decide⟩ (fun h => False.elim (by revert h; decide)) (fun _ => ?_)
    refine k_iload dX12_isCalled_32 rfl ?_
    refine k_if_eq 108 dX12_isCalled_34 (by decide) ⟨by decide, by decide⟩ (fun h => False.elim (by revert h; decide)) (fun _ => ?_)
    refine k_aload_n dX12_isCalled_37 rfl ?_
    refine k_getR dX12_isCalled_38 f_X12_48 (Nat.le_of_ble_eq_true rfl) sh_o86 (fun _ => rfl) ?_
    refine k_aload_n dX12_isCalled_41 rfl ?_
    refine k_getI dX12_isCalled_42 f_X12_236 (Nat.le_of_ble_eq_true rfl) sh_o86 (fun _ => rfl) ?_
    refine k_iload dX12_isCalled_45 rfl ?_
    refine k_iadd dX12_isCalled_47 ?_
    refine k_iald ((tSk T L p) + 0) dX12_isCalled_48 (Nat.le_of_ble_eq_true rfl) sh_a98 (by decide) (by omega) (by omega) ?_
    rw [c0 hA.1 hA.2]
    refine k_iload dX12_isCalled_49 rfl ?_
    refine k_if_ne 58 dX12_isCalled_51 (by decide) ⟨by decide, by decide⟩ (fun h => False.elim (by revert h; decide)) (fun _ => ?_)
    refine k_iload_n dX12_isCalled_54 rfl ?_
    refine k_goto 92 dX12_isCalled_55 (by decide) ?_
    refine k_icmp_ne 99 dX12_isCalled_92 (by decide) ⟨by omega, by omega⟩ ⟨by decide, by decide⟩ (fun h92 => ?_) (fun h92 => ?_)
    · skip
      refine k_iconst dX12_isCalled_99 ?_
      refine k_istore (L' := [_, _, _, _, _, _, _, _, _]) dX12_isCalled_100 (Nat.le_of_ble_eq_true rfl) rfl ?_
      refine k_iinc (L' := [_, _, _, _, _, _, _, _, _]) dX12_isCalled_102 rfl (Nat.le_of_ble_eq_true rfl) rfl ?_
      refine k_goto 26 dX12_isCalled_105 (by decide) ?_
      refine k_iload dX12_isCalled_26 rfl ?_
      refine k_iload_n dX12_isCalled_28 rfl ?_
      refine k_icmp_ge 108 dX12_isCalled_29 (by decide) ⟨by decide, by decide⟩ ⟨by decide, by decide⟩ (fun h => False.elim (by revert h; decide)) (fun _ => ?_)
      refine k_iload dX12_isCalled_32 rfl ?_
      refine k_if_eq 108 dX12_isCalled_34 (by decide) ⟨by decide, by decide⟩ (fun _ => ?_) (fun h => False.elim (by revert h; decide))
      refine k_iload dX12_isCalled_108 rfl ?_
      exact k_zret dX12_isCalled_110 rfl (Or.inl rfl) ⟨_, rfl, by first | exact bI_f (fun q => by have z := hw.mp q; omega) | exact bI_t (hw.mpr ⟨by omega, by omega, by omega⟩), rfl⟩
    · skip
      refine k_iconst dX12_isCalled_95 ?_
      refine k_goto 100 dX12_isCalled_96 (by decide) ?_
      refine k_istore (L' := [_, _, _, _, _, _, _, _, _]) dX12_isCalled_100 (Nat.le_of_ble_eq_true rfl) rfl ?_
      refine k_iinc (L' := [_, _, _, _, _, _, _, _, _]) dX12_isCalled_102 rfl (Nat.le_of_ble_eq_true rfl) rfl ?_
      refine k_goto 26 dX12_isCalled_105 (by decide) ?_
      refine k_iload dX12_isCalled_26 rfl ?_
      refine k_iload_n dX12_isCalled_28 rfl ?_
      refine k_icmp_ge 108 dX12_isCalled_29 (by decide) ⟨by decide, by decide⟩ ⟨by decide, by decide⟩ (fun h => False.elim (by revert h; decide)) (fun _ => ?_)
      refine k_iload dX12_isCalled_32 rfl ?_
      refine k_if_eq 108 dX12_isCalled_34 (by decide) ⟨by decide, by decide⟩ (fun h => False.elim (by revert h; decide)) (fun _ => ?_)
      refine k_aload_n dX12_isCalled_37 rfl ?_
      refine k_getR dX12_isCalled_38 f_X12_48 (Nat.le_of_ble_eq_true rfl) sh_o86 (fun _ => rfl) ?_
      refine k_aload_n dX12_isCalled_41 rfl ?_
      refine k_getI dX12_isCalled_42 f_X12_236 (Nat.le_of_ble_eq_true rfl) sh_o86 (fun _ => rfl) ?_
      refine k_iload dX12_isCalled_45 rfl ?_
      refine k_iadd dX12_isCalled_47 ?_
      refine k_iald ((tSk T L p) + 1) dX12_isCalled_48 (Nat.le_of_ble_eq_true rfl) sh_a98 (by decide) (by omega) (by omega) ?_
      rw [c1 hA.1 hA.2]
      refine k_iload dX12_isCalled_49 rfl ?_
      refine k_if_ne 58 dX12_isCalled_51 (by decide) ⟨by decide, by decide⟩ (fun _ => ?_) (fun h => False.elim (by revert h; decide))
      refine k_iload dX12_isCalled_58 rfl ?_
      refine k_iconst dX12_isCalled_60 ?_
      refine k_icmp_ne 68 dX12_isCalled_61 (by decide) ⟨by decide, by decide⟩ ⟨by decide, by decide⟩ (fun h => False.elim (by revert h; decide)) (fun _ => ?_)
      refine k_iload_n dX12_isCalled_64 rfl ?_
      refine k_goto 92 dX12_isCalled_65 (by decide) ?_
      refine k_icmp_ne 99 dX12_isCalled_92 (by decide) ⟨by omega, by omega⟩ ⟨by decide, by decide⟩ (fun h92 => ?_) (fun h92 => ?_)
      · skip
        refine k_iconst dX12_isCalled_99 ?_
        refine k_istore (L' := [_, _, _, _, _, _, _, _, _]) dX12_isCalled_100 (Nat.le_of_ble_eq_true rfl) rfl ?_
        refine k_iinc (L' := [_, _, _, _, _, _, _, _, _]) dX12_isCalled_102 rfl (Nat.le_of_ble_eq_true rfl) rfl ?_
        refine k_goto 26 dX12_isCalled_105 (by decide) ?_
        refine k_iload dX12_isCalled_26 rfl ?_
        refine k_iload_n dX12_isCalled_28 rfl ?_
        refine k_icmp_ge 108 dX12_isCalled_29 (by decide) ⟨by decide, by decide⟩ ⟨by decide, by decide⟩ (fun h => False.elim (by revert h; decide)) (fun _ => ?_)
        refine k_iload dX12_isCalled_32 rfl ?_
        refine k_if_eq 108 dX12_isCalled_34 (by decide) ⟨by decide, by decide⟩ (fun _ => ?_) (fun h => False.elim (by revert h; decide))
        refine k_iload dX12_isCalled_108 rfl ?_
        exact k_zret dX12_isCalled_110 rfl (Or.inl rfl) ⟨_, rfl, by first | exact bI_f (fun q => by have z := hw.mp q; omega) | exact bI_t (hw.mpr ⟨by omega, by omega, by omega⟩), rfl⟩
      · skip
        refine k_iconst dX12_isCalled_95 ?_
        refine k_goto 100 dX12_isCalled_96 (by decide) ?_
        refine k_istore (L' := [_, _, _, _, _, _, _, _, _]) dX12_isCalled_100 (Nat.le_of_ble_eq_true rfl) rfl ?_
        refine k_iinc (L' := [_, _, _, _, _, _, _, _, _]) dX12_isCalled_102 rfl (Nat.le_of_ble_eq_true rfl) rfl ?_
        refine k_goto 26 dX12_isCalled_105 (by decide) ?_
        refine k_iload dX12_isCalled_26 rfl ?_
        refine k_iload_n dX12_isCalled_28 rfl ?_
        refine k_icmp_ge 108 dX12_isCalled_29 (by decide) ⟨by decide, by decide⟩ ⟨by decide, by decide⟩ (fun h => False.elim (by revert h; decide)) (fun _ => ?_)
        refine k_iload dX12_isCalled_32 rfl ?_
        refine k_if_eq 108 dX12_isCalled_34 (by decide) ⟨by decide, by decide⟩ (fun h => False.elim (by revert h; decide)) (fun _ => ?_)
        refine k_aload_n dX12_isCalled_37 rfl ?_
        refine k_getR dX12_isCalled_38 f_X12_48 (Nat.le_of_ble_eq_true rfl) sh_o86 (fun _ => rfl) ?_
        refine k_aload_n dX12_isCalled_41 rfl ?_
        refine k_getI dX12_isCalled_42 f_X12_236 (Nat.le_of_ble_eq_true rfl) sh_o86 (fun _ => rfl) ?_
        refine k_iload dX12_isCalled_45 rfl ?_
        refine k_iadd dX12_isCalled_47 ?_
        refine k_iald ((tSk T L p) + 2) dX12_isCalled_48 (Nat.le_of_ble_eq_true rfl) sh_a98 (by decide) (by omega) (by omega) ?_
        rw [c2 hA.1 hA.2]
        refine k_iload dX12_isCalled_49 rfl ?_
        refine k_if_ne 58 dX12_isCalled_51 (by decide) ⟨by decide, by decide⟩ (fun _ => ?_) (fun h => False.elim (by revert h; decide))
        refine k_iload dX12_isCalled_58 rfl ?_
        refine k_iconst dX12_isCalled_60 ?_
        refine k_icmp_ne 68 dX12_isCalled_61 (by decide) ⟨by decide, by decide⟩ ⟨by decide, by decide⟩ (fun _ => ?_) (fun h => False.elim (by revert h; decide))
        refine k_iload dX12_isCalled_68 rfl ?_
        refine k_iconst dX12_isCalled_70 ?_
        refine k_icmp_ne 79 dX12_isCalled_71 (by decide) ⟨by decide, by decide⟩ ⟨by decide, by decide⟩ (fun h => False.elim (by revert h; decide)) (fun _ => ?_)
        refine k_iload dX12_isCalled_74 rfl ?_
        refine k_goto 92 dX12_isCalled_76 (by decide) ?_
        refine k_icmp_ne 99 dX12_isCalled_92 (by decide) ⟨by omega, by omega⟩ ⟨by decide, by decide⟩ (fun h92 => ?_) (fun h92 => ?_)
        · skip
          refine k_iconst dX12_isCalled_99 ?_
          refine k_istore (L' := [_, _, _, _, _, _, _, _, _]) dX12_isCalled_100 (Nat.le_of_ble_eq_true rfl) rfl ?_
          refine k_iinc (L' := [_, _, _, _, _, _, _, _, _]) dX12_isCalled_102 rfl (Nat.le_of_ble_eq_true rfl) rfl ?_
          refine k_goto 26 dX12_isCalled_105 (by decide) ?_
          refine k_iload dX12_isCalled_26 rfl ?_
          refine k_iload_n dX12_isCalled_28 rfl ?_
          refine k_icmp_ge 108 dX12_isCalled_29 (by decide) ⟨by decide, by decide⟩ ⟨by decide, by decide⟩ (fun h => False.elim (by revert h; decide)) (fun _ => ?_)
          refine k_iload dX12_isCalled_32 rfl ?_
          refine k_if_eq 108 dX12_isCalled_34 (by decide) ⟨by decide, by decide⟩ (fun _ => ?_) (fun h => False.elim (by revert h; decide))
          refine k_iload dX12_isCalled_108 rfl ?_
          exact k_zret dX12_isCalled_110 rfl (Or.inl rfl) ⟨_, rfl, by first | exact bI_f (fun q => by have z := hw.mp q; omega) | exact bI_t (hw.mpr ⟨by omega, by omega, by omega⟩), rfl⟩
        · skip
          refine k_iconst dX12_isCalled_95 ?_
          refine k_goto 100 dX12_isCalled_96 (by decide) ?_
          refine k_istore (L' := [_, _, _, _, _, _, _, _, _]) dX12_isCalled_100 (Nat.le_of_ble_eq_true rfl) rfl ?_
          refine k_iinc (L' := [_, _, _, _, _, _, _, _, _]) dX12_isCalled_102 rfl (Nat.le_of_ble_eq_true rfl) rfl ?_
          refine k_goto 26 dX12_isCalled_105 (by decide) ?_
          refine k_iload dX12_isCalled_26 rfl ?_
          refine k_iload_n dX12_isCalled_28 rfl ?_
          refine k_icmp_ge 108 dX12_isCalled_29 (by decide) ⟨by decide, by decide⟩ ⟨by decide, by decide⟩ (fun h => False.elim (by revert h; decide)) (fun _ => ?_)
          refine k_iload dX12_isCalled_32 rfl ?_
          refine k_if_eq 108 dX12_isCalled_34 (by decide) ⟨by decide, by decide⟩ (fun h => False.elim (by revert h; decide)) (fun _ => ?_)
          refine k_aload_n dX12_isCalled_37 rfl ?_
          refine k_getR dX12_isCalled_38 f_X12_48 (Nat.le_of_ble_eq_true rfl) sh_o86 (fun _ => rfl) ?_
          refine k_aload_n dX12_isCalled_41 rfl ?_
          refine k_getI dX12_isCalled_42 f_X12_236 (Nat.le_of_ble_eq_true rfl) sh_o86 (fun _ => rfl) ?_
          refine k_iload dX12_isCalled_45 rfl ?_
          refine k_iadd dX12_isCalled_47 ?_
          refine k_iald ((tSk T L p) + 3) dX12_isCalled_48 (Nat.le_of_ble_eq_true rfl) sh_a98 (by decide) (by omega) (by omega) ?_
          rw [c3 hA.1 hA.2]
          refine k_iload dX12_isCalled_49 rfl ?_
          refine k_if_ne 58 dX12_isCalled_51 (by decide) ⟨by decide, by decide⟩ (fun _ => ?_) (fun h => False.elim (by revert h; decide))
          refine k_iload dX12_isCalled_58 rfl ?_
          refine k_iconst dX12_isCalled_60 ?_
          refine k_icmp_ne 68 dX12_isCalled_61 (by decide) ⟨by decide, by decide⟩ ⟨by decide, by decide⟩ (fun _ => ?_) (fun h => False.elim (by revert h; decide))
          refine k_iload dX12_isCalled_68 rfl ?_
          refine k_iconst dX12_isCalled_70 ?_
          refine k_icmp_ne 79 dX12_isCalled_71 (by decide) ⟨by decide, by decide⟩ ⟨by decide, by decide⟩ (fun _ => ?_) (fun h => False.elim (by revert h; decide))
          refine k_iload dX12_isCalled_79 rfl ?_
          refine k_iconst dX12_isCalled_81 ?_
          refine k_icmp_ne 90 dX12_isCalled_82 (by decide) ⟨by decide, by decide⟩ ⟨by decide, by decide⟩ (fun h => False.elim (by revert h; decide)) (fun _ => ?_)
          refine k_iload dX12_isCalled_85 rfl ?_
          refine k_goto 92 dX12_isCalled_87 (by decide) ?_
          refine k_icmp_ne 99 dX12_isCalled_92 (by decide) ⟨by omega, by omega⟩ ⟨by decide, by decide⟩ (fun h92 => ?_) (fun h92 => ?_)
          · skip
            refine k_iconst dX12_isCalled_99 ?_
            refine k_istore (L' := [_, _, _, _, _, _, _, _, _]) dX12_isCalled_100 (Nat.le_of_ble_eq_true rfl) rfl ?_
            refine k_iinc (L' := [_, _, _, _, _, _, _, _, _]) dX12_isCalled_102 rfl (Nat.le_of_ble_eq_true rfl) rfl ?_
            refine k_goto 26 dX12_isCalled_105 (by decide) ?_
            refine k_iload dX12_isCalled_26 rfl ?_
            refine k_iload_n dX12_isCalled_28 rfl ?_
            refine k_icmp_ge 108 dX12_isCalled_29 (by decide) ⟨by decide, by decide⟩ ⟨by decide, by decide⟩ (fun _ => ?_) (fun h => False.elim (by revert h; decide))
            refine k_iload dX12_isCalled_108 rfl ?_
            exact k_zret dX12_isCalled_110 rfl (Or.inl rfl) ⟨_, rfl, by first | exact bI_f (fun q => by have z := hw.mp q; omega) | exact bI_t (hw.mpr ⟨by omega, by omega, by omega⟩), rfl⟩
          · skip
            refine k_iconst dX12_isCalled_95 ?_
            refine k_goto 100 dX12_isCalled_96 (by decide) ?_
            refine k_istore (L' := [_, _, _, _, _, _, _, _, _]) dX12_isCalled_100 (Nat.le_of_ble_eq_true rfl) rfl ?_
            refine k_iinc (L' := [_, _, _, _, _, _, _, _, _]) dX12_isCalled_102 rfl (Nat.le_of_ble_eq_true rfl) rfl ?_
            refine k_goto 26 dX12_isCalled_105 (by decide) ?_
            refine k_iload dX12_isCalled_26 rfl ?_
            refine k_iload_n dX12_isCalled_28 rfl ?_
            refine k_icmp_ge 108 dX12_isCalled_29 (by decide) ⟨by decide, by decide⟩ ⟨by decide, by decide⟩ (fun _ => ?_) (fun h => False.elim (by revert h; decide))
            refine k_iload dX12_isCalled_108 rfl ?_
            exact k_zret dX12_isCalled_110 rfl (Or.inr rfl) ⟨_, rfl, by first | exact bI_f (fun q => by have z := hw.mp q; omega) | exact bI_t (hw.mpr ⟨by omega, by omega, by omega⟩), rfl⟩
  · skip
    refine k_aload_n dX12_isCalled_0 rfl ?_
    refine k_getI dX12_isCalled_1 f_X12_242 (Nat.le_of_ble_eq_true rfl) sh_o86 (fun _ => rfl) ?_
    refine k_iconst dX12_isCalled_4 ?_
    refine k_icmp_ne 20 dX12_isCalled_5 (by decide) ⟨by omega, by omega⟩ ⟨by decide, by decide⟩ (fun h5 => ?_) (fun h5 => absurd h5 (by omega))
    refine k_iconst dX12_isCalled_20 ?_
    refine k_istore (L' := [_, _, _, _, _, _, _, _, _]) dX12_isCalled_21 (Nat.le_of_ble_eq_true rfl) rfl ?_
    refine k_iconst dX12_isCalled_23 ?_
    refine k_istore (L' := [_, _, _, _, _, _, _, _, _]) dX12_isCalled_24 (Nat.le_of_ble_eq_true rfl) rfl ?_
    refine k_iload dX12_isCalled_26 rfl ?_
    refine k_iload_n dX12_isCalled_28 rfl ?_
    refine k_icmp_ge 108 dX12_isCalled_29 (by decide) ⟨by decide, by decide⟩ ⟨by decide, by decide⟩ (fun h => False.elim (by revert h; decide)) (fun _ => ?_)
    refine k_iload dX12_isCalled_32 rfl ?_
    refine k_if_eq 108 dX12_isCalled_34 (by decide) ⟨by decide, by decide⟩ (fun _ => ?_) (fun h => False.elim (by revert h; decide))
    refine k_iload dX12_isCalled_108 rfl ?_
    exact k_zret dX12_isCalled_110 rfl (Or.inl rfl) ⟨_, rfl, by first | exact bI_f (fun q => by have z := hw.mp q; omega) | exact bI_t (hw.mpr ⟨by omega, by omega, by omega⟩), rfl⟩
  · skip
    refine k_aload_n dX12_isCalled_0 rfl ?_
    refine k_getI dX12_isCalled_1 f_X12_242 (Nat.le_of_ble_eq_true rfl) sh_o86 (fun _ => rfl) ?_
    refine k_iconst dX12_isCalled_4 ?_
    refine k_icmp_ne 20 dX12_isCalled_5 (by decide) ⟨by omega, by omega⟩ ⟨by decide, by decide⟩ (fun h5 => absurd h5 (by omega)) (fun h5 => ?_)
    refine k_aload_n dX12_isCalled_8 rfl ?_
    refine k_getI dX12_isCalled_9 f_X12_239 (Nat.le_of_ble_eq_true rfl) sh_o86 (fun _ => rfl) ?_
    refine k_iload_n dX12_isCalled_12 rfl ?_
    refine k_icmp_ne 20 dX12_isCalled_13 (by decide) ⟨by omega, by omega⟩ ⟨by decide, by decide⟩ (fun h13 => ?_) (fun h13 => absurd h13 (by omega))
    refine k_iconst dX12_isCalled_20 ?_
    refine k_istore (L' := [_, _, _, _, _, _, _, _, _]) dX12_isCalled_21 (Nat.le_of_ble_eq_true rfl) rfl ?_
    refine k_iconst dX12_isCalled_23 ?_
    refine k_istore (L' := [_, _, _, _, _, _, _, _, _]) dX12_isCalled_24 (Nat.le_of_ble_eq_true rfl) rfl ?_
    refine k_iload dX12_isCalled_26 rfl ?_
    refine k_iload_n dX12_isCalled_28 rfl ?_
    refine k_icmp_ge 108 dX12_isCalled_29 (by decide) ⟨by decide, by decide⟩ ⟨by decide, by decide⟩ (fun h => False.elim (by revert h; decide)) (fun _ => ?_)
    refine k_iload dX12_isCalled_32 rfl ?_
    refine k_if_eq 108 dX12_isCalled_34 (by decide) ⟨by decide, by decide⟩ (fun _ => ?_) (fun h => False.elim (by revert h; decide))
    refine k_iload dX12_isCalled_108 rfl ?_
    exact k_zret dX12_isCalled_110 rfl (Or.inl rfl) ⟨_, rfl, by first | exact bI_f (fun q => by have z := hw.mp q; omega) | exact bI_t (hw.mpr ⟨by omega, by omega, by omega⟩), rfl⟩
theorem m_xIsWChild {T : Nat → Int} {L : Nat} {G : Mem} (hT : TB T) (hB : BT T L G) {p : Nat} (hp : p ≤ L) (hK : TKS T L p G)  : MP M_X12_isCalled [.ref 86, .int (iI 5), .int (iI 99), .int (iI 104), .int (iI 105), .int (iI 108), .int (iI 100)] G (vx (bI (wOk T L 1 p = true)) G) := by
  have hb := tLn_b (T := T) hp
  have hl2 := hB.2.1
  have k1 := hK.1
  have k2 := hK.2.1
  have k3 := hK.2.2.1
  have kb := tKd_b (T := T) (L := L) (s := (tSk T L p))
  have hw := wOk_iff (T := T) (L := L) (p := p) (u := 1) (m := 5) rfl (by decide)
  rw [wEq_5] at hw
  have c0 : tKd T L (tSk T L p) = 1 → tLn T L (tSk T L p) = 5 → G 98 ((tSk T L p) + 0) = T ((tSk T L p) + 0) := fun _ q => hB.2.2 _ (by omega)
  have t0 := hT ((tSk T L p) + 0)
  have c1 : tKd T L (tSk T L p) = 1 → tLn T L (tSk T L p) = 5 → G 98 ((tSk T L p) + 1) = T ((tSk T L p) + 1) := fun _ q => hB.2.2 _ (by omega)
  have t1 := hT ((tSk T L p) + 1)
  have c2 : tKd T L (tSk T L p) = 1 → tLn T L (tSk T L p) = 5 → G 98 ((tSk T L p) + 2) = T ((tSk T L p) + 2) := fun _ q => hB.2.2 _ (by omega)
  have t2 := hT ((tSk T L p) + 2)
  have c3 : tKd T L (tSk T L p) = 1 → tLn T L (tSk T L p) = 5 → G 98 ((tSk T L p) + 3) = T ((tSk T L p) + 3) := fun _ q => hB.2.2 _ (by omega)
  have t3 := hT ((tSk T L p) + 3)
  have c4 : tKd T L (tSk T L p) = 1 → tLn T L (tSk T L p) = 5 → G 98 ((tSk T L p) + 4) = T ((tSk T L p) + 4) := fun _ q => hB.2.2 _ (by omega)
  have t4 := hT ((tSk T L p) + 4)
  refine MP.of [some (.ref 86), some (.int (iI 5)), some (.int (iI 99)), some (.int (iI 104)), some (.int (iI 105)), some (.int (iI 108)), some (.int (iI 100)), none, none] (plainFor_of_name pn_X12) (Nat.le_of_ble_eq_true rfl) rfl ?_
  rcases (show (tKd T L (tSk T L p) = 1 ∧ tLn T L (tSk T L p) = 5) ∨ ¬ tKd T L (tSk T L p) = 1 ∨ (tKd T L (tSk T L p) = 1 ∧ ¬ tLn T L (tSk T L p) = 5) by omega) with hA | hA | hA
  · skip
    refine k_aload_n dX12_isCalled_0 rfl ?_
    refine k_getI dX12_isCalled_1 f_X12_242 (Nat.le_of_ble_eq_true rfl) sh_o86 (fun _ => rfl) ?_
    refine k_iconst dX12_isCalled_4 ?_
    refine k_icmp_ne 20 dX12_isCalled_5 (by decide) ⟨by omega, by omega⟩ ⟨by decide, by decide⟩ (fun h5 => absurd h5 (by omega)) (fun h5 => ?_)
    refine k_aload_n dX12_isCalled_8 rfl ?_
    refine k_getI dX12_isCalled_9 f_X12_239 (Nat.le_of_ble_eq_true rfl) sh_o86 (fun _ => rfl) ?_
    refine k_iload_n dX12_isCalled_12 rfl ?_
    refine k_icmp_ne 20 dX12_isCalled_13 (by decide) ⟨by omega, by omega⟩ ⟨by decide, by decide⟩ (fun h13 => absurd h13 (by omega)) (fun h13 => ?_)
    refine k_iconst dX12_isCalled_16 ?_
    refine k_goto 21 dX12_isCalled_17 (by decide) ?_
    refine k_istore (L' := [_, _, _, _, _, _, _, _, _]) dX12_isCalled_21 (Nat.le_of_ble_eq_true rfl) rfl ?_
    refine k_iconst dX12_isCalled_23 ?_
    refine k_istore (L' := [_, _, _, _, _, _, _, _, _]) dX12_isCalled_24 (Nat.le_of_ble_eq_true rfl) rfl ?_
    refine k_iload dX12_isCalled_26 rfl ?_
    refine k_iload_n dX12_isCalled_28 rfl ?_
    refine k_icmp_ge 108 dX12_isCalled_29 (by decide) ⟨by decide, by decide⟩ ⟨by decide, by decide⟩ (fun h => False.elim (by revert h; decide)) (fun _ => ?_)
    refine k_iload dX12_isCalled_32 rfl ?_
    refine k_if_eq 108 dX12_isCalled_34 (by decide) ⟨by decide, by decide⟩ (fun h => False.elim (by revert h; decide)) (fun _ => ?_)
    refine k_aload_n dX12_isCalled_37 rfl ?_
    refine k_getR dX12_isCalled_38 f_X12_48 (Nat.le_of_ble_eq_true rfl) sh_o86 (fun _ => rfl) ?_
    refine k_aload_n dX12_isCalled_41 rfl ?_
    refine k_getI dX12_isCalled_42 f_X12_236 (Nat.le_of_ble_eq_true rfl) sh_o86 (fun _ => rfl) ?_
    refine k_iload dX12_isCalled_45 rfl ?_
    refine k_iadd dX12_isCalled_47 ?_
    refine k_iald ((tSk T L p) + 0) dX12_isCalled_48 (Nat.le_of_ble_eq_true rfl) sh_a98 (by decide) (by omega) (by omega) ?_
    rw [c0 hA.1 hA.2]
    refine k_iload dX12_isCalled_49 rfl ?_
    refine k_if_ne 58 dX12_isCalled_51 (by decide) ⟨by decide, by decide⟩ (fun h => False.elim (by revert h; decide)) (fun _ => ?_)
    refine k_iload_n dX12_isCalled_54 rfl ?_
    refine k_goto 92 dX12_isCalled_55 (by decide) ?_
    refine k_icmp_ne 99 dX12_isCalled_92 (by decide) ⟨by omega, by omega⟩ ⟨by decide, by decide⟩ (fun h92 => ?_) (fun h92 => ?_)
    · skip
      refine k_iconst dX12_isCalled_99 ?_
      refine k_istore (L' := [_, _, _, _, _, _, _, _, _]) dX12_isCalled_100 (Nat.le_of_ble_eq_true rfl) rfl ?_
      refine k_iinc (L' := [_, _, _, _, _, _, _, _, _]) dX12_isCalled_102 rfl (Nat.le_of_ble_eq_true rfl) rfl ?_
      refine k_goto 26 dX12_isCalled_105 (by decide) ?_
      refine k_iload dX12_isCalled_26 rfl ?_
      refine k_iload_n dX12_isCalled_28 rfl ?_
      refine k_icmp_ge 108 dX12_isCalled_29 (by decide) ⟨by decide, by decide⟩ ⟨by decide, by decide⟩ (fun h => False.elim (by revert h; decide)) (fun _ => ?_)
      refine k_iload dX12_isCalled_32 rfl ?_
      refine k_if_eq 108 dX12_isCalled_34 (by decide) ⟨by decide, by decide⟩ (fun _ => ?_) (fun h => False.elim (by revert h; decide))
      refine k_iload dX12_isCalled_108 rfl ?_
      exact k_zret dX12_isCalled_110 rfl (Or.inl rfl) ⟨_, rfl, by first | exact bI_f (fun q => by have z := hw.mp q; omega) | exact bI_t (hw.mpr ⟨by omega, by omega, by omega⟩), rfl⟩
    · skip
      refine k_iconst dX12_isCalled_95 ?_
      refine k_goto 100 dX12_isCalled_96 (by decide) ?_
      refine k_istore (L' := [_, _, _, _, _, _, _, _, _]) dX12_isCalled_100 (Nat.le_of_ble_eq_true rfl) rfl ?_
      refine k_iinc (L' := [_, _, _, _, _, _, _, _, _]) dX12_isCalled_102 rfl (Nat.le_of_ble_eq_true rfl) rfl ?_
      refine k_goto 26 dX12_isCalled_105 (by decide) ?_
      refine k_iload dX12_isCalled_26 rfl ?_
      refine k_iload_n dX12_isCalled_28 rfl ?_
      refine k_icmp_ge 108 dX12_isCalled_29 (by decide) ⟨by decide, by decide⟩ ⟨by decide, by decide⟩ (fun h => False.elim (by revert h; decide)) (fun _ => ?_)
      refine k_iload dX12_isCalled_32 rfl ?_
      refine k_if_eq 108 dX12_isCalled_34 (by decide) ⟨by decide, by decide⟩ (fun h => False.elim (by revert h; decide)) (fun _ => ?_)
      refine k_aload_n dX12_isCalled_37 rfl ?_
      refine k_getR dX12_isCalled_38 f_X12_48 (Nat.le_of_ble_eq_true rfl) sh_o86 (fun _ => rfl) ?_
      refine k_aload_n dX12_isCalled_41 rfl ?_
      refine k_getI dX12_isCalled_42 f_X12_236 (Nat.le_of_ble_eq_true rfl) sh_o86 (fun _ => rfl) ?_
      refine k_iload dX12_isCalled_45 rfl ?_
      refine k_iadd dX12_isCalled_47 ?_
      refine k_iald ((tSk T L p) + 1) dX12_isCalled_48 (Nat.le_of_ble_eq_true rfl) sh_a98 (by decide) (by omega) (by omega) ?_
      rw [c1 hA.1 hA.2]
      refine k_iload dX12_isCalled_49 rfl ?_
      refine k_if_ne 58 dX12_isCalled_51 (by decide) ⟨by decide, by decide⟩ (fun _ => ?_) (fun h => False.elim (by revert h; decide))
      refine k_iload dX12_isCalled_58 rfl ?_
      refine k_iconst dX12_isCalled_60 ?_
      refine k_icmp_ne 68 dX12_isCalled_61 (by decide) ⟨by decide, by decide⟩ ⟨by decide, by decide⟩ (fun h => False.elim (by revert h; decide)) (fun _ => ?_)
      refine k_iload_n dX12_isCalled_64 rfl ?_
      refine k_goto 92 dX12_isCalled_65 (by decide) ?_
      refine k_icmp_ne 99 dX12_isCalled_92 (by decide) ⟨by omega, by omega⟩ ⟨by decide, by decide⟩ (fun h92 => ?_) (fun h92 => ?_)
      · skip
        refine k_iconst dX12_isCalled_99 ?_
        refine k_istore (L' := [_, _, _, _, _, _, _, _, _]) dX12_isCalled_100 (Nat.le_of_ble_eq_true rfl) rfl ?_
        refine k_iinc (L' := [_, _, _, _, _, _, _, _, _]) dX12_isCalled_102 rfl (Nat.le_of_ble_eq_true rfl) rfl ?_
        refine k_goto 26 dX12_isCalled_105 (by decide) ?_
        refine k_iload dX12_isCalled_26 rfl ?_
        refine k_iload_n dX12_isCalled_28 rfl ?_
        refine k_icmp_ge 108 dX12_isCalled_29 (by decide) ⟨by decide, by decide⟩ ⟨by decide, by decide⟩ (fun h => False.elim (by revert h; decide)) (fun _ => ?_)
        refine k_iload dX12_isCalled_32 rfl ?_
        refine k_if_eq 108 dX12_isCalled_34 (by decide) ⟨by decide, by decide⟩ (fun _ => ?_) (fun h => False.elim (by revert h; decide))
        refine k_iload dX12_isCalled_108 rfl ?_
        exact k_zret dX12_isCalled_110 rfl (Or.inl rfl) ⟨_, rfl, by first | exact bI_f (fun q => by have z := hw.mp q; omega) | exact bI_t (hw.mpr ⟨by omega, by omega, by omega⟩), rfl⟩
      · skip
        refine k_iconst dX12_isCalled_95 ?_
        refine k_goto 100 dX12_isCalled_96 (by decide) ?_
        refine k_istore (L' := [_, _, _, _, _, _, _, _, _]) dX12_isCalled_100 (Nat.le_of_ble_eq_true rfl) rfl ?_
        refine k_iinc (L' := [_, _, _, _, _, _, _, _, _]) dX12_isCalled_102 rfl (Nat.le_of_ble_eq_true rfl) rfl ?_
        refine k_goto 26 dX12_isCalled_105 (by decide) ?_
        refine k_iload dX12_isCalled_26 rfl ?_
        refine k_iload_n dX12_isCalled_28 rfl ?_
        refine k_icmp_ge 108 dX12_isCalled_29 (by decide) ⟨by decide, by decide⟩ ⟨by decide, by decide⟩ (fun h => False.elim (by revert h; decide)) (fun _ => ?_)
        refine k_iload dX12_isCalled_32 rfl ?_
        refine k_if_eq 108 dX12_isCalled_34 (by decide) ⟨by decide, by decide⟩ (fun h => False.elim (by revert h; decide)) (fun _ => ?_)
        refine k_aload_n dX12_isCalled_37 rfl ?_
        refine k_getR dX12_isCalled_38 f_X12_48 (Nat.le_of_ble_eq_true rfl) sh_o86 (fun _ => rfl) ?_
        refine k_aload_n dX12_isCalled_41 rfl ?_
        refine k_getI dX12_isCalled_42 f_X12_236 (Nat.le_of_ble_eq_true rfl) sh_o86 (fun _ => rfl) ?_
        refine k_iload dX12_isCalled_45 rfl ?_
        refine k_iadd dX12_isCalled_47 ?_
        refine k_iald ((tSk T L p) + 2) dX12_isCalled_48 (Nat.le_of_ble_eq_true rfl) sh_a98 (by decide) (by omega) (by omega) ?_
        rw [c2 hA.1 hA.2]
        refine k_iload dX12_isCalled_49 rfl ?_
        refine k_if_ne 58 dX12_isCalled_51 (by decide) ⟨by decide, by decide⟩ (fun _ => ?_) (fun h => False.elim (by revert h; decide))
        refine k_iload dX12_isCalled_58 rfl ?_
        refine k_iconst dX12_isCalled_60 ?_
        refine k_icmp_ne 68 dX12_isCalled_61 (by decide) ⟨by decide, by decide⟩ ⟨by decide, by decide⟩ (fun _ => ?_) (fun h => False.elim (by revert h; decide))
        refine k_iload dX12_isCalled_68 rfl ?_
        refine k_iconst dX12_isCalled_70 ?_
        refine k_icmp_ne 79 dX12_isCalled_71 (by decide) ⟨by decide, by decide⟩ ⟨by decide, by decide⟩ (fun h => False.elim (by revert h; decide)) (fun _ => ?_)
        refine k_iload dX12_isCalled_74 rfl ?_
        refine k_goto 92 dX12_isCalled_76 (by decide) ?_
        refine k_icmp_ne 99 dX12_isCalled_92 (by decide) ⟨by omega, by omega⟩ ⟨by decide, by decide⟩ (fun h92 => ?_) (fun h92 => ?_)
        · skip
          refine k_iconst dX12_isCalled_99 ?_
          refine k_istore (L' := [_, _, _, _, _, _, _, _, _]) dX12_isCalled_100 (Nat.le_of_ble_eq_true rfl) rfl ?_
          refine k_iinc (L' := [_, _, _, _, _, _, _, _, _]) dX12_isCalled_102 rfl (Nat.le_of_ble_eq_true rfl) rfl ?_
          refine k_goto 26 dX12_isCalled_105 (by decide) ?_
          refine k_iload dX12_isCalled_26 rfl ?_
          refine k_iload_n dX12_isCalled_28 rfl ?_
          refine k_icmp_ge 108 dX12_isCalled_29 (by decide) ⟨by decide, by decide⟩ ⟨by decide, by decide⟩ (fun h => False.elim (by revert h; decide)) (fun _ => ?_)
          refine k_iload dX12_isCalled_32 rfl ?_
          refine k_if_eq 108 dX12_isCalled_34 (by decide) ⟨by decide, by decide⟩ (fun _ => ?_) (fun h => False.elim (by revert h; decide))
          refine k_iload dX12_isCalled_108 rfl ?_
          exact k_zret dX12_isCalled_110 rfl (Or.inl rfl) ⟨_, rfl, by first | exact bI_f (fun q => by have z := hw.mp q; omega) | exact bI_t (hw.mpr ⟨by omega, by omega, by omega⟩), rfl⟩
        · skip
          refine k_iconst dX12_isCalled_95 ?_
          refine k_goto 100 dX12_isCalled_96 (by decide) ?_
          refine k_istore (L' := [_, _, _, _, _, _, _, _, _]) dX12_isCalled_100 (Nat.le_of_ble_eq_true rfl) rfl ?_
          refine k_iinc (L' := [_, _, _, _, _, _, _, _, _]) dX12_isCalled_102 rfl (Nat.le_of_ble_eq_true rfl) rfl ?_
          refine k_goto 26 dX12_isCalled_105 (by decide) ?_
          refine k_iload dX12_isCalled_26 rfl ?_
          refine k_iload_n dX12_isCalled_28 rfl ?_
          refine k_icmp_ge 108 dX12_isCalled_29 (by decide) ⟨by decide, by decide⟩ ⟨by decide, by decide⟩ (fun h => False.elim (by revert h; decide)) (fun _ => ?_)
          refine k_iload dX12_isCalled_32 rfl ?_
          refine k_if_eq 108 dX12_isCalled_34 (by decide) ⟨by decide, by decide⟩ (fun h => False.elim (by revert h; decide)) (fun _ => ?_)
          refine k_aload_n dX12_isCalled_37 rfl ?_
          refine k_getR dX12_isCalled_38 f_X12_48 (Nat.le_of_ble_eq_true rfl) sh_o86 (fun _ => rfl) ?_
          refine k_aload_n dX12_isCalled_41 rfl ?_
          refine k_getI dX12_isCalled_42 f_X12_236 (Nat.le_of_ble_eq_true rfl) sh_o86 (fun _ => rfl) ?_
          refine k_iload dX12_isCalled_45 rfl ?_
          refine k_iadd dX12_isCalled_47 ?_
          refine k_iald ((tSk T L p) + 3) dX12_isCalled_48 (Nat.le_of_ble_eq_true rfl) sh_a98 (by decide) (by omega) (by omega) ?_
          rw [c3 hA.1 hA.2]
          refine k_iload dX12_isCalled_49 rfl ?_
          refine k_if_ne 58 dX12_isCalled_51 (by decide) ⟨by decide, by decide⟩ (fun _ => ?_) (fun h => False.elim (by revert h; decide))
          refine k_iload dX12_isCalled_58 rfl ?_
          refine k_iconst dX12_isCalled_60 ?_
          refine k_icmp_ne 68 dX12_isCalled_61 (by decide) ⟨by decide, by decide⟩ ⟨by decide, by decide⟩ (fun _ => ?_) (fun h => False.elim (by revert h; decide))
          refine k_iload dX12_isCalled_68 rfl ?_
          refine k_iconst dX12_isCalled_70 ?_
          refine k_icmp_ne 79 dX12_isCalled_71 (by decide) ⟨by decide, by decide⟩ ⟨by decide, by decide⟩ (fun _ => ?_) (fun h => False.elim (by revert h; decide))
          refine k_iload dX12_isCalled_79 rfl ?_
          refine k_iconst dX12_isCalled_81 ?_
          refine k_icmp_ne 90 dX12_isCalled_82 (by decide) ⟨by decide, by decide⟩ ⟨by decide, by decide⟩ (fun h => False.elim (by revert h; decide)) (fun _ => ?_)
          refine k_iload dX12_isCalled_85 rfl ?_
          refine k_goto 92 dX12_isCalled_87 (by decide) ?_
          refine k_icmp_ne 99 dX12_isCalled_92 (by decide) ⟨by omega, by omega⟩ ⟨by decide, by decide⟩ (fun h92 => ?_) (fun h92 => ?_)
          · skip
            refine k_iconst dX12_isCalled_99 ?_
            refine k_istore (L' := [_, _, _, _, _, _, _, _, _]) dX12_isCalled_100 (Nat.le_of_ble_eq_true rfl) rfl ?_
            refine k_iinc (L' := [_, _, _, _, _, _, _, _, _]) dX12_isCalled_102 rfl (Nat.le_of_ble_eq_true rfl) rfl ?_
            refine k_goto 26 dX12_isCalled_105 (by decide) ?_
            refine k_iload dX12_isCalled_26 rfl ?_
            refine k_iload_n dX12_isCalled_28 rfl ?_
            refine k_icmp_ge 108 dX12_isCalled_29 (by decide) ⟨by decide, by decide⟩ ⟨by decide, by decide⟩ (fun h => False.elim (by revert h; decide)) (fun _ => ?_)
            refine k_iload dX12_isCalled_32 rfl ?_
            refine k_if_eq 108 dX12_isCalled_34 (by decide) ⟨by decide, by decide⟩ (fun _ => ?_) (fun h => False.elim (by revert h; decide))
            refine k_iload dX12_isCalled_108 rfl ?_
            exact k_zret dX12_isCalled_110 rfl (Or.inl rfl) ⟨_, rfl, by first | exact bI_f (fun q => by have z := hw.mp q; omega) | exact bI_t (hw.mpr ⟨by omega, by omega, by omega⟩), rfl⟩
          · skip
            refine k_iconst dX12_isCalled_95 ?_
            refine k_goto 100 dX12_isCalled_96 (by decide) ?_
            refine k_istore (L' := [_, _, _, _, _, _, _, _, _]) dX12_isCalled_100 (Nat.le_of_ble_eq_true rfl) rfl ?_
            refine k_iinc (L' := [_, _, _, _, _, _, _, _, _]) dX12_isCalled_102 rfl (Nat.le_of_ble_eq_true rfl) rfl ?_
            refine k_goto 26 dX12_isCalled_105 (by decide) ?_
            refine k_iload dX12_isCalled_26 rfl ?_
            refine k_iload_n dX12_isCalled_28 rfl ?_
            refine k_icmp_ge 108 dX12_isCalled_29 (by decide) ⟨by decide, by decide⟩ ⟨by decide, by decide⟩ (fun h => False.elim (by revert h; decide)) (fun _ => ?_)
            refine k_iload dX12_isCalled_32 rfl ?_
            refine k_if_eq 108 dX12_isCalled_34 (by decide) ⟨by decide, by decide⟩ (fun h => False.elim (by revert h; decide)) (fun _ => ?_)
            refine k_aload_n dX12_isCalled_37 rfl ?_
            refine k_getR dX12_isCalled_38 f_X12_48 (Nat.le_of_ble_eq_true rfl) sh_o86 (fun _ => rfl) ?_
            refine k_aload_n dX12_isCalled_41 rfl ?_
            refine k_getI dX12_isCalled_42 f_X12_236 (Nat.le_of_ble_eq_true rfl) sh_o86 (fun _ => rfl) ?_
            refine k_iload dX12_isCalled_45 rfl ?_
            refine k_iadd dX12_isCalled_47 ?_
            refine k_iald ((tSk T L p) + 4) dX12_isCalled_48 (Nat.le_of_ble_eq_true rfl) sh_a98 (by decide) (by omega) (by omega) ?_
            rw [c4 hA.1 hA.2]
            refine k_iload dX12_isCalled_49 rfl ?_
            refine k_if_ne 58 dX12_isCalled_51 (by decide) ⟨by decide, by decide⟩ (fun _ => ?_) (fun h => False.elim (by revert h; decide))
            refine k_iload dX12_isCalled_58 rfl ?_
            refine k_iconst dX12_isCalled_60 ?_
            refine k_icmp_ne 68 dX12_isCalled_61 (by decide) ⟨by decide, by decide⟩ ⟨by decide, by decide⟩ (fun _ => ?_) (fun h => False.elim (by revert h; decide))
            refine k_iload dX12_isCalled_68 rfl ?_
            refine k_iconst dX12_isCalled_70 ?_
            refine k_icmp_ne 79 dX12_isCalled_71 (by decide) ⟨by decide, by decide⟩ ⟨by decide, by decide⟩ (fun _ => ?_) (fun h => False.elim (by revert h; decide))
            refine k_iload dX12_isCalled_79 rfl ?_
            refine k_iconst dX12_isCalled_81 ?_
            refine k_icmp_ne 90 dX12_isCalled_82 (by decide) ⟨by decide, by decide⟩ ⟨by decide, by decide⟩ (fun _ => ?_) (fun h => False.elim (by revert h; decide))
            refine k_iload dX12_isCalled_90 rfl ?_
            refine k_icmp_ne 99 dX12_isCalled_92 (by decide) ⟨by omega, by omega⟩ ⟨by decide, by decide⟩ (fun h92 => ?_) (fun h92 => ?_)
            · skip
              refine k_iconst dX12_isCalled_99 ?_
              refine k_istore (L' := [_, _, _, _, _, _, _, _, _]) dX12_isCalled_100 (Nat.le_of_ble_eq_true rfl) rfl ?_
              refine k_iinc (L' := [_, _, _, _, _, _, _, _, _]) dX12_isCalled_102 rfl (Nat.le_of_ble_eq_true rfl) rfl ?_
              refine k_goto 26 dX12_isCalled_105 (by decide) ?_
              refine k_iload dX12_isCalled_26 rfl ?_
              refine k_iload_n dX12_isCalled_28 rfl ?_
              refine k_icmp_ge 108 dX12_isCalled_29 (by decide) ⟨by decide, by decide⟩ ⟨by decide, by decide⟩ (fun _ => ?_) (fun h => False.elim (by revert h; decide))
              refine k_iload dX12_isCalled_108 rfl ?_
              exact k_zret dX12_isCalled_110 rfl (Or.inl rfl) ⟨_, rfl, by first | exact bI_f (fun q => by have z := hw.mp q; omega) | exact bI_t (hw.mpr ⟨by omega, by omega, by omega⟩), rfl⟩
            · skip
              refine k_iconst dX12_isCalled_95 ?_
              refine k_goto 100 dX12_isCalled_96 (by decide) ?_
              refine k_istore (L' := [_, _, _, _, _, _, _, _, _]) dX12_isCalled_100 (Nat.le_of_ble_eq_true rfl) rfl ?_
              refine k_iinc (L' := [_, _, _, _, _, _, _, _, _]) dX12_isCalled_102 rfl (Nat.le_of_ble_eq_true rfl) rfl ?_
              refine k_goto 26 dX12_isCalled_105 (by decide) ?_
              refine k_iload dX12_isCalled_26 rfl ?_
              refine k_iload_n dX12_isCalled_28 rfl ?_
              refine k_icmp_ge 108 dX12_isCalled_29 (by decide) ⟨by decide, by decide⟩ ⟨by decide, by decide⟩ (fun _ => ?_) (fun h => False.elim (by revert h; decide))
              refine k_iload dX12_isCalled_108 rfl ?_
              exact k_zret dX12_isCalled_110 rfl (Or.inr rfl) ⟨_, rfl, by first | exact bI_f (fun q => by have z := hw.mp q; omega) | exact bI_t (hw.mpr ⟨by omega, by omega, by omega⟩), rfl⟩
  · skip
    refine k_aload_n dX12_isCalled_0 rfl ?_
    refine k_getI dX12_isCalled_1 f_X12_242 (Nat.le_of_ble_eq_true rfl) sh_o86 (fun _ => rfl) ?_
    refine k_iconst dX12_isCalled_4 ?_
    refine k_icmp_ne 20 dX12_isCalled_5 (by decide) ⟨by omega, by omega⟩ ⟨by decide, by decide⟩ (fun h5 => ?_) (fun h5 => absurd h5 (by omega))
    refine k_iconst dX12_isCalled_20 ?_
    refine k_istore (L' := [_, _, _, _, _, _, _, _, _]) dX12_isCalled_21 (Nat.le_of_ble_eq_true rfl) rfl ?_
    refine k_iconst dX12_isCalled_23 ?_
    refine k_istore (L' := [_, _, _, _, _, _, _, _, _]) dX12_isCalled_24 (Nat.le_of_ble_eq_true rfl) rfl ?_
    refine k_iload dX12_isCalled_26 rfl ?_
    refine k_iload_n dX12_isCalled_28 rfl ?_
    refine k_icmp_ge 108 dX12_isCalled_29 (by decide) ⟨by decide, by decide⟩ ⟨by decide, by decide⟩ (fun h => False.elim (by revert h; decide)) (fun _ => ?_)
    refine k_iload dX12_isCalled_32 rfl ?_
    refine k_if_eq 108 dX12_isCalled_34 (by decide) ⟨by decide, by decide⟩ (fun _ => ?_) (fun h => False.elim (by revert h; decide))
    refine k_iload dX12_isCalled_108 rfl ?_
    exact k_zret dX12_isCalled_110 rfl (Or.inl rfl) ⟨_, rfl, by first | exact bI_f (fun q => by have z := hw.mp q; omega) | exact bI_t (hw.mpr ⟨by omega, by omega, by omega⟩), rfl⟩
  · skip
    refine k_aload_n dX12_isCalled_0 rfl ?_
    refine k_getI dX12_isCalled_1 f_X12_242 (Nat.le_of_ble_eq_true rfl) sh_o86 (fun _ => rfl) ?_
    refine k_iconst dX12_isCalled_4 ?_
    refine k_icmp_ne 20 dX12_isCalled_5 (by decide) ⟨by omega, by omega⟩ ⟨by decide, by decide⟩ (fun h5 => absurd h5 (by omega)) (fun h5 => ?_)
    refine k_aload_n dX12_isCalled_8 rfl ?_
    refine k_getI dX12_isCalled_9 f_X12_239 (Nat.le_of_ble_eq_true rfl) sh_o86 (fun _ => rfl) ?_
    refine k_iload_n dX12_isCalled_12 rfl ?_
    refine k_icmp_ne 20 dX12_isCalled_13 (by decide) ⟨by omega, by omega⟩ ⟨by decide, by decide⟩ (fun h13 => ?_) (fun h13 => absurd h13 (by omega))
    refine k_iconst dX12_isCalled_20 ?_
    refine k_istore (L' := [_, _, _, _, _, _, _, _, _]) dX12_isCalled_21 (Nat.le_of_ble_eq_true rfl) rfl ?_
    refine k_iconst dX12_isCalled_23 ?_
    refine k_istore (L' := [_, _, _, _, _, _, _, _, _]) dX12_isCalled_24 (Nat.le_of_ble_eq_true rfl) rfl ?_
    refine k_iload dX12_isCalled_26 rfl ?_
    refine k_iload_n dX12_isCalled_28 rfl ?_
    refine k_icmp_ge 108 dX12_isCalled_29 (by decide) ⟨by decide, by decide⟩ ⟨by decide, by decide⟩ (fun h => False.elim (by revert h; decide)) (fun _ => ?_)
    refine k_iload dX12_isCalled_32 rfl ?_
    refine k_if_eq 108 dX12_isCalled_34 (by decide) ⟨by decide, by decide⟩ (fun _ => ?_) (fun h => False.elim (by revert h; decide))
    refine k_iload dX12_isCalled_108 rfl ?_
    exact k_zret dX12_isCalled_110 rfl (Or.inl rfl) ⟨_, rfl, by first | exact bI_f (fun q => by have z := hw.mp q; omega) | exact bI_t (hw.mpr ⟨by omega, by omega, by omega⟩), rfl⟩
/-- the token, the values and the road that is told may have changed -/
def TW (G g : Mem) : Prop := ∀ a b, ¬ (a = 86 ∧ 16 ≤ b ∧ b ≤ 19) → a ≠ 99 → a ≠ 100 → g a b = G a b
theorem TW.rf {G : Mem} : TW G G := fun _ _ _ _ _ => rfl
theorem TF.tw {G g : Mem} (h : TF G g) : TW G g := fun a b x _ _ => h a b x
theorem TW.tr {G g k : Mem} (h1 : TW G g) (h2 : TW g k) : TW G k := fun a b x y z => (h2 a b x y z).trans (h1 a b x y z)
theorem TW.sc {G g : Mem} (h : TW G g) : SC G g := fun a b x y => h a b (by omega) (by omega) (by omega)
theorem BT.tw {T : Nat → Int} {L : Nat} {G g : Mem} (h : BT T L G) (k : TW G g) : BT T L g := h.sc k.sc
/-- only the token and one value have changed -/
def TV (j : Nat) (G g : Mem) : Prop := ∀ a b, ¬ (a = 86 ∧ 16 ≤ b ∧ b ≤ 19) → ¬ (a = 100 ∧ b = j) → g a b = G a b
theorem TV.tw {j : Nat} {G g : Mem} (h : TV j G g) : TW G g := fun a b x _ z => h a b x (by omega)
def tkP (T : Nat → Int) (L : Nat) (lo hi : Int) (p k : Nat) (G : Mem) : Int → Mem → Prop := fun v g => (nVal T L lo hi p = -1 ∧ 0 = v ∧ G = g) ∨ (0 ≤ nVal T L lo hi p ∧ 1 = v ∧ TV k G g ∧ g 100 k = nVal T L lo hi p ∧ TKS T L (nTo T L lo hi p) g)
theorem m_xTakes {T : Nat → Int} {L : Nat} {G : Mem} (hT : TB T) (hB : BT T L G) {p : Nat} (hp : p ≤ L) (hK : TKS T L p G) {k : Nat} (hk : k < 5) {lo hi : Int} (hlo : 0 ≤ lo ∧ lo ≤ 100) (hhi : 0 ≤ hi ∧ hi ≤ 100) : MP M_X12_takes [.ref 86, .int (iI (k : Int)), .int (iI lo), .int (iI hi)] G (vi (tkP T L lo hi p k G)) := by
  have k3 := hK.2.2.1
  have kb := tKd_b (T := T) (L := L) (s := (tSk T L p))
  have hv := nVal_k (T := T) (L := L) (p := p) (hi := hi) hlo.1
  have hr : tKd T L (tSk T L p) = 2 → 0 ≤ G 86 19 ∧ G 86 19 ≤ 99 := fun q => by
    rw [hK.2.2.2 q]
    have h2 := tKd_2.mp q
    have h3 := tEn_p (T := T) h2.1 h2.2.1
    exact q_num_b _ (by omega) (fun j hj => tEn_in (L := L) (by omega))
  have he : tKd T L (tSk T L p) = 2 → tLn T L (tSk T L p) = tEn T L 48 57 (tSk T L p) - (tSk T L p) ∧ (tSk T L p) + (tEn T L 48 57 (tSk T L p) - (tSk T L p)) = tEn T L 48 57 (tSk T L p) := fun q => by
    have h2 := tKd_2.mp q
    have h3 := tEn_p (T := T) h2.1 h2.2.1
    unfold tLn
    rw [if_neg (by omega), if_neg (by omega), if_pos h2.2.1]
    omega
  refine MP.of [some (.ref 86), some (.int (iI (k : Int))), some (.int (iI lo)), some (.int (iI hi))] (plainFor_of_name pn_X12) (Nat.le_of_ble_eq_true rfl) rfl ?_
  refine k_aload_n dX12_takes_0 rfl ?_
  refine k_getI dX12_takes_1 f_X12_242 (Nat.le_of_ble_eq_true rfl) sh_o86 (fun _ => rfl) ?_
  refine k_iconst dX12_takes_4 ?_
  refine k_icmp_ne 23 dX12_takes_5 (by decide) ⟨by omega, by omega⟩ ⟨by decide, by decide⟩ (fun h5 => ?_) (fun h5 => ?_)
  · skip
    refine k_iconst dX12_takes_23 ?_
    exact k_zret dX12_takes_24 rfl (Or.inl rfl) ⟨_, rfl, by first | exact Or.inl ⟨by rw [hv]; exact if_neg (fun q => by omega), rfl, rfl⟩ | exact Or.inl ⟨by rw [hv]; exact if_neg (fun q => h20 q.2), rfl, rfl⟩ | (rw [if_pos ⟨q2, h20⟩] at hv; exact Or.inr ⟨by omega, rfl, fun a b x y => by rw [hg a b x, ug_ne (by omega)], by rw [hg 100 k (by omega), ug_at, hv], by rw [(he q2).1, (he q2).2] at hKg; rw [nTo_2 (by omega)]; exact hKg⟩)⟩
  · skip
    have q2 : tKd T L (tSk T L p) = 2 := by omega
    have hr2 := hr q2
    have h19 := hK.2.2.2 q2
    rw [← h19] at hv
    refine k_aload_n dX12_takes_8 rfl ?_
    refine k_getI dX12_takes_9 f_X12_245 (Nat.le_of_ble_eq_true rfl) sh_o86 (fun _ => rfl) ?_
    refine k_i2l dX12_takes_12 ⟨by omega, by omega⟩ ?_
    refine k_iload_n dX12_takes_13 rfl ?_
    refine k_i2l dX12_takes_14 ⟨by omega, by omega⟩ ?_
    refine k_iload_n dX12_takes_15 rfl ?_
    refine k_i2l dX12_takes_16 ⟨by omega, by omega⟩ ?_
    refine k_callSi [.long (lI _), .long (lI _), .long (lI _)] dX12_takes_17 s_X12_takes_65 rfl (m_xIn (by first | assumption | exact ⟨by omega, by omega⟩) (by first | assumption | exact ⟨by omega, by omega⟩) (by first | assumption | exact ⟨by omega, by omega⟩)) rfl (Nat.le_of_ble_eq_true rfl) ?_
    rintro _ _ ⟨rfl, rfl⟩
    refine k_ifb_ne 25 dX12_takes_20 (by decide) (fun h20 => ?_) (fun h20 => ?_)
    · skip
      refine k_aload_n dX12_takes_25 rfl ?_
      refine k_getR dX12_takes_26 f_X12_54 (Nat.le_of_ble_eq_true rfl) sh_o86 (fun _ => rfl) ?_
      refine k_iload_n dX12_takes_29 rfl ?_
      refine k_aload_n dX12_takes_30 rfl ?_
      refine k_getI dX12_takes_31 f_X12_245 (Nat.le_of_ble_eq_true rfl) sh_o86 (fun _ => rfl) ?_
      refine k_iast k dX12_takes_34 (Nat.le_of_ble_eq_true rfl) sh_a100 (by decide) (by omega) (by omega) ?_
      refine k_aload_n dX12_takes_35 rfl ?_
      refine k_callVv [] dX12_takes_36 s_X12_takes_257 rfl (m_xGoBehind hT (hB.of (ug_nc (by decide)) (fun _ => ug_nc (by decide))) hp (hK.of (fun j _ _ => ug_nc (by decide)))) rfl (Nat.le_of_ble_eq_true rfl) sh_o86 ⟨_, rfl, rfl⟩ (Nat.le_of_ble_eq_true rfl) ?_
      rintro g ⟨hg, hKg⟩
      refine k_iconst dX12_takes_39 ?_
      exact k_zret dX12_takes_40 rfl (Or.inr rfl) ⟨_, rfl, by first | exact Or.inl ⟨by rw [hv]; exact if_neg (fun q => by omega), rfl, rfl⟩ | exact Or.inl ⟨by rw [hv]; exact if_neg (fun q => h20 q.2), rfl, rfl⟩ | (rw [if_pos ⟨q2, h20⟩] at hv; exact Or.inr ⟨by omega, rfl, fun a b x y => by rw [hg a b x, ug_ne (by omega)], by rw [hg 100 k (by omega), ug_at, hv], by rw [(he q2).1, (he q2).2] at hKg; rw [nTo_2 (by omega)]; exact hKg⟩)⟩
    · skip
      refine k_iconst dX12_takes_23 ?_
      exact k_zret dX12_takes_24 rfl (Or.inl rfl) ⟨_, rfl, by first | exact Or.inl ⟨by rw [hv]; exact if_neg (fun q => by omega), rfl, rfl⟩ | exact Or.inl ⟨by rw [hv]; exact if_neg (fun q => h20 q.2), rfl, rfl⟩ | (rw [if_pos ⟨q2, h20⟩] at hv; exact Or.inr ⟨by omega, rfl, fun a b x y => by rw [hg a b x, ug_ne (by omega)], by rw [hg 100 k (by omega), ug_at, hv], by rw [(he q2).1, (he q2).2] at hKg; rw [nTo_2 (by omega)]; exact hKg⟩)⟩
theorem wTo_k {T : Nat → Int} {L u p m : Nat} (hm : q_sl u = m) (h0 : 0 < m) (h : wOk T L u p = true) : tSk T L p + tLn T L (tSk T L p) = wTo T L u p := by
  have k := (wOk_iff hm h0).mp h
  have k1 := tKd_1.mp k.1
  have k2 := tEn_p (T := T) k1.1 k1.2
  unfold wTo
  rw [if_pos h]
  unfold tLn
  rw [if_neg (by omega), if_pos k1.2]
  omega
theorem wTo_n {T : Nat → Int} {L u p : Nat} (h : ¬ wOk T L u p = true) : wTo T L u p = tSk T L p := if_neg h
theorem sOk_k {T : Nat → Int} {L p : Nat} : sOk T L p = true ↔ tKd T L (tSk T L p) = 3 := by
  unfold sOk
  rw [decide_eq_true_iff, tKd_3]
theorem sTo_k {T : Nat → Int} {L p : Nat} (h : sOk T L p = true) : tSk T L p + tLn T L (tSk T L p) = sTo T L p := by
  have k := tKd_3.mp (sOk_k.mp h)
  unfold sTo tLn
  rw [if_pos h, if_neg (by omega), if_neg (by omega), if_neg (by omega)]
theorem sTo_n {T : Nat → Int} {L p : Nat} (h : ¬ sOk T L p = true) : sTo T L p = tSk T L p := if_neg h
theorem mBeg_at {G : Mem} {a y : Nat} {s l : Int} (hy : y < 74) : mBeg G a s l a y = if y = 2 then l else if y = 1 then s else 0 := by
  unfold mBeg
  by_cases h2 : y = 2
  · subst h2; rw [ug_at]; rfl
  · rw [ug_np h2, if_neg h2]
    by_cases h1 : y = 1
    · subst h1; rw [ug_at]; rfl
    · rw [ug_np h1, if_neg h1]
      exact if_pos ⟨rfl, hy⟩
theorem mBeg_ne {G : Mem} {a x y : Nat} {s l : Int} (h : x ≠ a) : mBeg G a s l x y = G x y := by
  unfold mBeg
  rw [ug_nc h, ug_nc h]
  exact if_neg (fun q => h q.1)
theorem mAdd_ne {G : Mem} {a x y : Nat} {k h c s b : Int} (e : x ≠ a) : mAdd G a k h c s b x y = G x y := by
  unfold mAdd
  rw [ug_nc e, ug_nc e, ug_nc e, ug_nc e, ug_nc e, ug_nc e]
theorem mAdd_c {G g : Mem} {a : Nat} {k h c s b : Int} (e : ∀ y, g a y = G a y) (y : Nat) : mAdd g a k h c s b a y = mAdd G a k h c s b a y := by
  unfold mAdd
  rw [e 0]
  unfold ug
  repeat' split
  all_goals first | rfl | exact e y | (exfalso; omega)
theorem m_xTakesFirst {T : Nat → Int} {L : Nat} {G : Mem} (hT : TB T) (hB : BT T L G) {p : Nat} (hp : p ≤ L) (hK : TKS T L p G)  : MP M_X12_takesFirst [.ref 86] G (vi fun v g => (riO T L p = true ∧ 1 = v ∧ TW G g ∧ TKS T L (riP3 T L p) g ∧ ∀ y, y < 74 → g 99 y = (if y = 2 then riL T L p else if y = 1 then riS T L p else 0)) ∨ (¬ riO T L p = true ∧ 0 = v ∧ TW G g ∧ g 86 16 = (riE T L p : Int))) := by
  refine MP.of [some (.ref 86)] (plainFor_of_name pn_X12) (Nat.le_of_ble_eq_true rfl) rfl ?_
  refine k_aload_n dX12_takesFirst_0 rfl ?_
  refine k_iconst dX12_takesFirst_1 ?_
  refine k_bipush dX12_takesFirst_2 (by decide) ?_
  refine k_bipush dX12_takesFirst_4 (by decide) ?_
  refine k_bipush dX12_takesFirst_6 (by decide) ?_
  refine k_bipush dX12_takesFirst_8 (by decide) ?_
  refine k_iconst dX12_takesFirst_10 ?_
  refine k_callVi [.int (iI _), .int (iI _), .int (iI _), .int (iI _), .int (iI _), .int (iI _)] dX12_takesFirst_11 s_X12_takesFirst_260 rfl (m_xIsWRoad hT hB hp hK) rfl (Nat.le_of_ble_eq_true rfl) sh_o86 ⟨_, rfl, rfl⟩ (Nat.le_of_ble_eq_true rfl) ?_
  rintro _ _ ⟨rfl, rfl⟩
  skip
  refine k_ifb_ne 19 dX12_takesFirst_14 (by decide) (fun h14 => ?_) (fun h14 => ?_)
  rotate_left
  · skip
    refine k_iconst dX12_takesFirst_17 ?_
    exact k_zret dX12_takesFirst_18 rfl (Or.inl rfl) ⟨_, rfl, Or.inr ⟨fun q => h14 (riO_iff.mp q).1, rfl, TW.rf, by unfold riE riP1; rw [if_pos h14, wTo_n h14]; exact hK.1⟩⟩
  refine k_aload_n dX12_takesFirst_19 rfl ?_
  refine k_callVv [] dX12_takesFirst_20 s_X12_takesFirst_257 rfl (m_xGoBehind hT hB hp hK) rfl (Nat.le_of_ble_eq_true rfl) sh_o86 ⟨_, rfl, rfl⟩ (Nat.le_of_ble_eq_true rfl) ?_
  rintro g0 ⟨hg0, hK0⟩
  rw [wTo_k rfl (by decide) h14] at hK0
  change TKS T L (riP1 T L p) g0 at hK0
  have hp1 : riP1 T L p ≤ L := wTo_b hp
  have hB0 := hB.tf hg0
  refine k_aload_n dX12_takesFirst_23 rfl ?_
  refine k_iconst dX12_takesFirst_24 ?_
  refine k_iconst dX12_takesFirst_25 ?_
  refine k_bipush dX12_takesFirst_26 (by decide) ?_
  refine k_callVi [.int (iI _), .int (iI _), .int (iI _)] dX12_takesFirst_28 s_X12_takesFirst_264 rfl (m_xTakes hT hB0 hp1 hK0 (k := 0) (by decide) ⟨by decide, by decide⟩ ⟨by decide, by decide⟩) rfl (Nat.le_of_ble_eq_true rfl) sh_o86 ⟨_, rfl, rfl⟩ (Nat.le_of_ble_eq_true rfl) ?_
  intro v1 g1 hv1
  rcases hv1 with ⟨q1, rfl, rfl⟩ | ⟨q1, rfl, hv1, hx1, hK1⟩
  · skip
    refine k_if_eq 44 dX12_takesFirst_31 (by decide) ⟨by decide, by decide⟩ (fun _ => ?_) (fun h => False.elim (by revert h; decide))
    refine k_iconst dX12_takesFirst_44 ?_
    exact k_zret dX12_takesFirst_45 rfl (Or.inl rfl) ⟨_, rfl, Or.inr ⟨fun q => by have z := (riO_iff.mp q).2.1; change 0 ≤ nVal T L 0 47 (riP1 T L p) at z; omega, rfl, hg0.tw, by unfold riE; rw [if_neg (fun z => z h14), if_pos (by show nVal T L 0 47 (riP1 T L p) < 0; omega)]; unfold riP2; rw [nTo_1 q1]; exact hK0.1⟩⟩
  change TKS T L (riP2 T L p) g1 at hK1
  have hp2 : riP2 T L p ≤ L := nTo_b hp1
  have hB1 := hB0.tw hv1.tw
  refine k_if_eq 44 dX12_takesFirst_31 (by decide) ⟨by decide, by decide⟩ (fun h => False.elim (by revert h; decide)) (fun _ => ?_)
  refine k_aload_n dX12_takesFirst_34 rfl ?_
  refine k_iconst dX12_takesFirst_35 ?_
  refine k_iconst dX12_takesFirst_36 ?_
  refine k_iconst dX12_takesFirst_37 ?_
  refine k_callVi [.int (iI _), .int (iI _), .int (iI _)] dX12_takesFirst_38 s_X12_takesFirst_264 rfl (m_xTakes hT hB1 hp2 hK1 (k := 1) (by decide) ⟨by decide, by decide⟩ ⟨by decide, by decide⟩) rfl (Nat.le_of_ble_eq_true rfl) sh_o86 ⟨_, rfl, rfl⟩ (Nat.le_of_ble_eq_true rfl) ?_
  intro v2 g2 hv2
  rcases hv2 with ⟨q2, rfl, rfl⟩ | ⟨q2, rfl, hv2, hx2, hK2⟩
  · skip
    refine k_if_ne 46 dX12_takesFirst_41 (by decide) ⟨by decide, by decide⟩ (fun h => False.elim (by revert h; decide)) (fun _ => ?_)
    refine k_iconst dX12_takesFirst_44 ?_
    exact k_zret dX12_takesFirst_45 rfl (Or.inl rfl) ⟨_, rfl, Or.inr ⟨fun q => by have z := (riO_iff.mp q).2.2.1; change 0 ≤ nVal T L 0 2 (riP2 T L p) at z; omega, rfl, hg0.tw.tr hv1.tw, by unfold riE; rw [if_neg (fun z => z h14), if_neg (by show ¬ nVal T L 0 47 (riP1 T L p) < 0; omega), if_pos (by show nVal T L 0 2 (riP2 T L p) < 0; omega)]; unfold riP3; rw [nTo_1 q2]; exact hK1.1⟩⟩
  change TKS T L (riP3 T L p) g2 at hK2
  have hp3 : riP3 T L p ≤ L := nTo_b hp2
  have e0 : g2 100 0 = riS T L p := (hv2 100 0 (by decide) (by decide)).trans hx1
  have e1 : g2 100 1 = riL T L p := hx2
  have hK3 : TKS T L (riP3 T L p) (mBeg g2 99 (riS T L p) (riL T L p)) := hK2.of (fun j _ _ => mBeg_ne (by decide))
  have kb := tKd_b (T := T) (L := L) (s := tSk T L (riP3 T L p))
  have k3 := hK3.2.2.1
  have hS : 0 ≤ riS T L p := q1
  have hL : 0 ≤ riL T L p := q2
  have hW : TW G (mBeg g2 99 (riS T L p) (riL T L p)) := ((hg0.tw.tr hv1.tw).tr hv2.tw).tr (fun a b _ y _ => mBeg_ne y)
  refine k_if_ne 46 dX12_takesFirst_41 (by decide) ⟨by decide, by decide⟩ (fun _ => ?_) (fun h => False.elim (by revert h; decide))
  refine k_aload_n dX12_takesFirst_46 rfl ?_
  refine k_getR dX12_takesFirst_47 f_X12_51 (Nat.le_of_ble_eq_true rfl) sh_o86 (fun _ => rfl) ?_
  refine k_aload_n dX12_takesFirst_50 rfl ?_
  refine k_getR dX12_takesFirst_51 f_X12_54 (Nat.le_of_ble_eq_true rfl) sh_o86 (fun _ => rfl) ?_
  refine k_iconst dX12_takesFirst_54 ?_
  refine k_iald (0) dX12_takesFirst_55 (Nat.le_of_ble_eq_true rfl) sh_a100 (by decide) (by omega) (by omega) ?_
  refine k_aload_n dX12_takesFirst_56 rfl ?_
  refine k_getR dX12_takesFirst_57 f_X12_54 (Nat.le_of_ble_eq_true rfl) sh_o86 (fun _ => rfl) ?_
  refine k_iconst dX12_takesFirst_60 ?_
  refine k_iald (1) dX12_takesFirst_61 (Nat.le_of_ble_eq_true rfl) sh_a100 (by decide) (by omega) (by omega) ?_
  rw [e0, e1]
  refine k_callSv [.ref _, .int (iI _), .int (iI _)] dX12_takesFirst_62 s_X12_takesFirst_57 rfl m_xBegin99 rfl (Nat.le_of_ble_eq_true rfl) ?_
  rintro _ rfl
  refine k_aload_n dX12_takesFirst_65 rfl ?_
  refine k_getI dX12_takesFirst_66 f_X12_242 (Nat.le_of_ble_eq_true rfl) sh_o86 (fun _ => rfl) ?_
  refine k_iconst dX12_takesFirst_69 ?_
  refine k_icmp_ne 77 dX12_takesFirst_70 (by decide) ⟨by omega, by omega⟩ ⟨by decide, by decide⟩ (fun h70 => ?_) (fun h70 => ?_)
  · skip
    refine k_iconst dX12_takesFirst_77 ?_
    exact k_zret dX12_takesFirst_78 rfl (Or.inl rfl) ⟨_, rfl, by first | exact Or.inl ⟨riO_iff.mpr ⟨h14, hS, hL, sOk_k.mpr (by omega)⟩, rfl, hW, hK3, fun y hy => mBeg_at hy⟩ | exact Or.inr ⟨fun q => by have z := sOk_k.mp (riO_iff.mp q).2.2.2; omega, rfl, hW, by unfold riE; rw [if_neg (fun z => z h14), if_neg (by omega), if_neg (by omega), sTo_n (fun q => by have z := sOk_k.mp q; omega)]; exact hK3.1⟩⟩
  · skip
    refine k_iconst dX12_takesFirst_73 ?_
    refine k_goto 78 dX12_takesFirst_74 (by decide) ?_
    exact k_zret dX12_takesFirst_78 rfl (Or.inr rfl) ⟨_, rfl, by first | exact Or.inl ⟨riO_iff.mpr ⟨h14, hS, hL, sOk_k.mpr (by omega)⟩, rfl, hW, hK3, fun y hy => mBeg_at hy⟩ | exact Or.inr ⟨fun q => by have z := sOk_k.mp (riO_iff.mp q).2.2.2; omega, rfl, hW, by unfold riE; rw [if_neg (fun z => z h14), if_neg (by omega), if_neg (by omega), sTo_n (fun q => by have z := sOk_k.mp q; omega)]; exact hK3.1⟩⟩
def ciA (T : Nat → Int) (L p : Nat) : Prop := wOk T L 1 p = true ∧ 0 ≤ ciK T L p ∧ 0 ≤ ciH T L p ∧ 0 ≤ ciC T L p ∧ 0 ≤ ciS T L p ∧ 0 ≤ ciB T L p
theorem ciO_A {T : Nat → Int} {L p : Nat} : ciO T L p = true ↔ ciA T L p ∧ sOk T L (ciP6 T L p) = true := by
  rw [ciO_iff]
  unfold ciA
  constructor
  · rintro ⟨a, b, c, d, e, f, g⟩; exact ⟨⟨a, b, c, d, e, f⟩, g⟩
  · rintro ⟨⟨a, b, c, d, e, f⟩, g⟩; exact ⟨a, b, c, d, e, f, g⟩
theorem ciE_A {T : Nat → Int} {L p : Nat} (h : ciA T L p) : ciE T L p = sTo T L (ciP6 T L p) := by
  obtain ⟨a, b, c, d, e, f⟩ := h
  unfold ciE
  rw [if_neg (fun z => z a), if_neg (by omega), if_neg (by omega), if_neg (by omega), if_neg (by omega), if_neg (by omega)]
theorem m_xTakesChild {T : Nat → Int} {L : Nat} {G : Mem} (hT : TB T) (hB : BT T L G) {p : Nat} (hp : p ≤ L) (hK : TKS T L p G) (hn : 0 ≤ G 99 0 ∧ G 99 0 ≤ 6) : MP M_X12_takesChild [.ref 86] G (vi fun v g => (ciA T L p ∧ G 99 0 < 6 ∧ 1 = v ∧ TW G g ∧ TKS T L (ciP6 T L p) g ∧ ∀ y, g 99 y = mAdd G 99 (ciK T L p) (ciH T L p) (ciC T L p) (ciS T L p) (ciB T L p) 99 y) ∨ (0 = v ∧ TW G g ∧ (G 99 0 < 6 → ¬ ciA T L p ∧ g 86 16 = (ciE T L p : Int)) ∧ (G 99 0 = 6 → g 86 16 = (tSk T L p : Int)))) := by
  refine MP.of [some (.ref 86)] (plainFor_of_name pn_X12) (Nat.le_of_ble_eq_true rfl) rfl ?_
  refine k_aload_n dX12_takesChild_0 rfl ?_
  refine k_iconst dX12_takesChild_1 ?_
  refine k_bipush dX12_takesChild_2 (by decide) ?_
  refine k_bipush dX12_takesChild_4 (by decide) ?_
  refine k_bipush dX12_takesChild_6 (by decide) ?_
  refine k_bipush dX12_takesChild_8 (by decide) ?_
  refine k_bipush dX12_takesChild_10 (by decide) ?_
  refine k_callVi [.int (iI _), .int (iI _), .int (iI _), .int (iI _), .int (iI _), .int (iI _)] dX12_takesChild_12 s_X12_takesChild_260 rfl (m_xIsWChild hT hB hp hK) rfl (Nat.le_of_ble_eq_true rfl) sh_o86 ⟨_, rfl, rfl⟩ (Nat.le_of_ble_eq_true rfl) ?_
  rintro _ _ ⟨rfl, rfl⟩
  skip
  refine k_ifb_eq 29 dX12_takesChild_15 (by decide) (fun h15 => ?_) (fun h15 => ?_)
  · skip
    refine k_iconst dX12_takesChild_29 ?_
    exact k_zret dX12_takesChild_30 rfl (Or.inl rfl) ⟨_, rfl, Or.inr ⟨rfl, TW.rf, fun _ => ⟨fun q => h15 q.1, by unfold ciE ciP1; rw [if_pos h15, wTo_n h15]; exact hK.1⟩, fun _ => hK.1⟩⟩
  rcases (show G 99 0 = 6 ∨ G 99 0 < 6 by omega) with h6 | h6
  · skip
    refine k_aload_n dX12_takesChild_18 rfl ?_
    refine k_getR dX12_takesChild_19 f_X12_51 (Nat.le_of_ble_eq_true rfl) sh_o86 (fun _ => rfl) ?_
    refine k_iconst dX12_takesChild_22 ?_
    refine k_iald (0) dX12_takesChild_23 (Nat.le_of_ble_eq_true rfl) sh_a99 (by decide) (by omega) (by omega) ?_
    refine k_bipush dX12_takesChild_24 (by decide) ?_
    refine k_icmp_ne 31 dX12_takesChild_26 (by decide) ⟨by omega, by omega⟩ ⟨by decide, by decide⟩ (fun h26 => absurd h26 (by omega)) (fun h26 => ?_)
    refine k_iconst dX12_takesChild_29 ?_
    exact k_zret dX12_takesChild_30 rfl (Or.inl rfl) ⟨_, rfl, Or.inr ⟨rfl, TW.rf, fun q => by omega, fun _ => hK.1⟩⟩
  · skip
    refine k_aload_n dX12_takesChild_18 rfl ?_
    refine k_getR dX12_takesChild_19 f_X12_51 (Nat.le_of_ble_eq_true rfl) sh_o86 (fun _ => rfl) ?_
    refine k_iconst dX12_takesChild_22 ?_
    refine k_iald (0) dX12_takesChild_23 (Nat.le_of_ble_eq_true rfl) sh_a99 (by decide) (by omega) (by omega) ?_
    refine k_bipush dX12_takesChild_24 (by decide) ?_
    refine k_icmp_ne 31 dX12_takesChild_26 (by decide) ⟨by omega, by omega⟩ ⟨by decide, by decide⟩ (fun h26 => ?_) (fun h26 => absurd h26 (by omega))
    refine k_aload_n dX12_takesChild_31 rfl ?_
    refine k_callVv [] dX12_takesChild_32 s_X12_takesChild_257 rfl (m_xGoBehind hT hB hp hK) rfl (Nat.le_of_ble_eq_true rfl) sh_o86 ⟨_, rfl, rfl⟩ (Nat.le_of_ble_eq_true rfl) ?_
    rintro g0 ⟨hg0, hK0⟩
    rw [wTo_k rfl (by decide) h15] at hK0
    change TKS T L (ciP1 T L p) g0 at hK0
    have hp1 : ciP1 T L p ≤ L := wTo_b hp
    have hB0 := hB.tf hg0
    refine k_aload_n dX12_takesChild_35 rfl ?_
    refine k_iconst dX12_takesChild_36 ?_
    refine k_iconst dX12_takesChild_37 ?_
    refine k_iconst dX12_takesChild_38 ?_
    refine k_callVi [.int (iI _), .int (iI _), .int (iI _)] dX12_takesChild_39 s_X12_takesChild_264 rfl (m_xTakes hT hB0 hp1 hK0 (k := 0) (by decide) ⟨by decide, by decide⟩ ⟨by decide, by decide⟩) rfl (Nat.le_of_ble_eq_true rfl) sh_o86 ⟨_, rfl, rfl⟩ (Nat.le_of_ble_eq_true rfl) ?_
    intro v1 g1 hv1
    rcases hv1 with ⟨q1, rfl, rfl⟩ | ⟨q1, rfl, hv1, hx1, hK1⟩
    · skip
      refine k_if_eq 88 dX12_takesChild_42 (by decide) ⟨by decide, by decide⟩ (fun _ => ?_) (fun h => False.elim (by revert h; decide))
      refine k_iconst dX12_takesChild_88 ?_
      exact k_zret dX12_takesChild_89 rfl (Or.inl rfl) ⟨_, rfl, Or.inr ⟨rfl, hg0.tw, fun _ => ⟨fun q => by have z := q.2.1; change 0 ≤ nVal T L 0 5 (ciP1 T L p) at z; omega, by unfold ciE; rw [if_neg (fun z => z h15), if_pos (by show nVal T L 0 5 (ciP1 T L p) < 0; omega)]; unfold ciP2; rw [nTo_1 q1]; exact hK0.1⟩, fun q => by omega⟩⟩
    change TKS T L (ciP2 T L p) g1 at hK1
    have hp2 : ciP2 T L p ≤ L := nTo_b hp1
    have hB1 := hB0.tw hv1.tw
    refine k_if_eq 88 dX12_takesChild_42 (by decide) ⟨by decide, by decide⟩ (fun h => False.elim (by revert h; decide)) (fun _ => ?_)
    refine k_aload_n dX12_takesChild_45 rfl ?_
    refine k_iconst dX12_takesChild_46 ?_
    refine k_iconst dX12_takesChild_47 ?_
    refine k_bipush dX12_takesChild_48 (by decide) ?_
    refine k_callVi [.int (iI _), .int (iI _), .int (iI _)] dX12_takesChild_50 s_X12_takesChild_264 rfl (m_xTakes hT hB1 hp2 hK1 (k := 1) (by decide) ⟨by decide, by decide⟩ ⟨by decide, by decide⟩) rfl (Nat.le_of_ble_eq_true rfl) sh_o86 ⟨_, rfl, rfl⟩ (Nat.le_of_ble_eq_true rfl) ?_
    intro v2 g2 hv2
    rcases hv2 with ⟨q2, rfl, rfl⟩ | ⟨q2, rfl, hv2, hx2, hK2⟩
    · skip
      refine k_if_eq 88 dX12_takesChild_53 (by decide) ⟨by decide, by decide⟩ (fun _ => ?_) (fun h => False.elim (by revert h; decide))
      refine k_iconst dX12_takesChild_88 ?_
      exact k_zret dX12_takesChild_89 rfl (Or.inl rfl) ⟨_, rfl, Or.inr ⟨rfl, (hg0.tw.tr hv1.tw), fun _ => ⟨fun q => by have z := q.2.2.1; change 0 ≤ nVal T L 1 9 (ciP2 T L p) at z; omega, by unfold ciE; rw [if_neg (fun z => z h15), if_neg (by show ¬ nVal T L 0 5 (ciP1 T L p) < 0; omega), if_pos (by show nVal T L 1 9 (ciP2 T L p) < 0; omega)]; unfold ciP3; rw [nTo_1 q2]; exact hK1.1⟩, fun q => by omega⟩⟩
    change TKS T L (ciP3 T L p) g2 at hK2
    have hp3 : ciP3 T L p ≤ L := nTo_b hp2
    have hB2 := hB1.tw hv2.tw
    refine k_if_eq 88 dX12_takesChild_53 (by decide) ⟨by decide, by decide⟩ (fun h => False.elim (by revert h; decide)) (fun _ => ?_)
    refine k_aload_n dX12_takesChild_56 rfl ?_
    refine k_iconst dX12_takesChild_57 ?_
    refine k_iconst dX12_takesChild_58 ?_
    refine k_bipush dX12_takesChild_59 (by decide) ?_
    refine k_callVi [.int (iI _), .int (iI _), .int (iI _)] dX12_takesChild_61 s_X12_takesChild_264 rfl (m_xTakes hT hB2 hp3 hK2 (k := 2) (by decide) ⟨by decide, by decide⟩ ⟨by decide, by decide⟩) rfl (Nat.le_of_ble_eq_true rfl) sh_o86 ⟨_, rfl, rfl⟩ (Nat.le_of_ble_eq_true rfl) ?_
    intro v3 g3 hv3
    rcases hv3 with ⟨q3, rfl, rfl⟩ | ⟨q3, rfl, hv3, hx3, hK3⟩
    · skip
      refine k_if_eq 88 dX12_takesChild_64 (by decide) ⟨by decide, by decide⟩ (fun _ => ?_) (fun h => False.elim (by revert h; decide))
      refine k_iconst dX12_takesChild_88 ?_
      exact k_zret dX12_takesChild_89 rfl (Or.inl rfl) ⟨_, rfl, Or.inr ⟨rfl, ((hg0.tw.tr hv1.tw).tr hv2.tw), fun _ => ⟨fun q => by have z := q.2.2.2.1; change 0 ≤ nVal T L 0 47 (ciP3 T L p) at z; omega, by unfold ciE; rw [if_neg (fun z => z h15), if_neg (by show ¬ nVal T L 0 5 (ciP1 T L p) < 0; omega), if_neg (by show ¬ nVal T L 1 9 (ciP2 T L p) < 0; omega), if_pos (by show nVal T L 0 47 (ciP3 T L p) < 0; omega)]; unfold ciP4; rw [nTo_1 q3]; exact hK2.1⟩, fun q => by omega⟩⟩
    change TKS T L (ciP4 T L p) g3 at hK3
    have hp4 : ciP4 T L p ≤ L := nTo_b hp3
    have hB3 := hB2.tw hv3.tw
    refine k_if_eq 88 dX12_takesChild_64 (by decide) ⟨by decide, by decide⟩ (fun h => False.elim (by revert h; decide)) (fun _ => ?_)
    refine k_aload_n dX12_takesChild_67 rfl ?_
    refine k_iconst dX12_takesChild_68 ?_
    refine k_iconst dX12_takesChild_69 ?_
    refine k_iconst dX12_takesChild_70 ?_
    refine k_callVi [.int (iI _), .int (iI _), .int (iI _)] dX12_takesChild_71 s_X12_takesChild_264 rfl (m_xTakes hT hB3 hp4 hK3 (k := 3) (by decide) ⟨by decide, by decide⟩ ⟨by decide, by decide⟩) rfl (Nat.le_of_ble_eq_true rfl) sh_o86 ⟨_, rfl, rfl⟩ (Nat.le_of_ble_eq_true rfl) ?_
    intro v4 g4 hv4
    rcases hv4 with ⟨q4, rfl, rfl⟩ | ⟨q4, rfl, hv4, hx4, hK4⟩
    · skip
      refine k_if_eq 88 dX12_takesChild_74 (by decide) ⟨by decide, by decide⟩ (fun _ => ?_) (fun h => False.elim (by revert h; decide))
      refine k_iconst dX12_takesChild_88 ?_
      exact k_zret dX12_takesChild_89 rfl (Or.inl rfl) ⟨_, rfl, Or.inr ⟨rfl, (((hg0.tw.tr hv1.tw).tr hv2.tw).tr hv3.tw), fun _ => ⟨fun q => by have z := q.2.2.2.2.1; change 0 ≤ nVal T L 0 3 (ciP4 T L p) at z; omega, by unfold ciE; rw [if_neg (fun z => z h15), if_neg (by show ¬ nVal T L 0 5 (ciP1 T L p) < 0; omega), if_neg (by show ¬ nVal T L 1 9 (ciP2 T L p) < 0; omega), if_neg (by show ¬ nVal T L 0 47 (ciP3 T L p) < 0; omega), if_pos (by show nVal T L 0 3 (ciP4 T L p) < 0; omega)]; unfold ciP5; rw [nTo_1 q4]; exact hK3.1⟩, fun q => by omega⟩⟩
    change TKS T L (ciP5 T L p) g4 at hK4
    have hp5 : ciP5 T L p ≤ L := nTo_b hp4
    have hB4 := hB3.tw hv4.tw
    refine k_if_eq 88 dX12_takesChild_74 (by decide) ⟨by decide, by decide⟩ (fun h => False.elim (by revert h; decide)) (fun _ => ?_)
    refine k_aload_n dX12_takesChild_77 rfl ?_
    refine k_iconst dX12_takesChild_78 ?_
    refine k_iconst dX12_takesChild_79 ?_
    refine k_bipush dX12_takesChild_80 (by decide) ?_
    refine k_callVi [.int (iI _), .int (iI _), .int (iI _)] dX12_takesChild_82 s_X12_takesChild_264 rfl (m_xTakes hT hB4 hp5 hK4 (k := 4) (by decide) ⟨by decide, by decide⟩ ⟨by decide, by decide⟩) rfl (Nat.le_of_ble_eq_true rfl) sh_o86 ⟨_, rfl, rfl⟩ (Nat.le_of_ble_eq_true rfl) ?_
    intro v5 g5 hv5
    rcases hv5 with ⟨q5, rfl, rfl⟩ | ⟨q5, rfl, hv5, hx5, hK5⟩
    · skip
      refine k_if_ne 90 dX12_takesChild_85 (by decide) ⟨by decide, by decide⟩ (fun h => False.elim (by revert h; decide)) (fun _ => ?_)
      refine k_iconst dX12_takesChild_88 ?_
      exact k_zret dX12_takesChild_89 rfl (Or.inl rfl) ⟨_, rfl, Or.inr ⟨rfl, ((((hg0.tw.tr hv1.tw).tr hv2.tw).tr hv3.tw).tr hv4.tw), fun _ => ⟨fun q => by have z := q.2.2.2.2.2; change 0 ≤ nVal T L 0 60 (ciP5 T L p) at z; omega, by unfold ciE; rw [if_neg (fun z => z h15), if_neg (by show ¬ nVal T L 0 5 (ciP1 T L p) < 0; omega), if_neg (by show ¬ nVal T L 1 9 (ciP2 T L p) < 0; omega), if_neg (by show ¬ nVal T L 0 47 (ciP3 T L p) < 0; omega), if_neg (by show ¬ nVal T L 0 3 (ciP4 T L p) < 0; omega), if_pos (by show nVal T L 0 60 (ciP5 T L p) < 0; omega)]; unfold ciP6; rw [nTo_1 q5]; exact hK4.1⟩, fun q => by omega⟩⟩
    change TKS T L (ciP6 T L p) g5 at hK5
    have hp6 : ciP6 T L p ≤ L := nTo_b hp5
    have hB5 := hB4.tw hv5.tw
    have e0 : g5 100 0 = ciK T L p := (hv5 100 0 (by decide) (by decide)).trans ((hv4 100 0 (by decide) (by decide)).trans ((hv3 100 0 (by decide) (by decide)).trans ((hv2 100 0 (by decide) (by decide)).trans (hx1))))
    have e1 : g5 100 1 = ciH T L p := (hv5 100 1 (by decide) (by decide)).trans ((hv4 100 1 (by decide) (by decide)).trans ((hv3 100 1 (by decide) (by decide)).trans (hx2)))
    have e2 : g5 100 2 = ciC T L p := (hv5 100 2 (by decide) (by decide)).trans ((hv4 100 2 (by decide) (by decide)).trans (hx3))
    have e3 : g5 100 3 = ciS T L p := (hv5 100 3 (by decide) (by decide)).trans (hx4)
    have e4 : g5 100 4 = ciB T L p := hx5
    have e99 : ∀ y, g5 99 y = G 99 y := fun y => ((hv5 99 y (by omega) (by omega)).trans ((hv4 99 y (by omega) (by omega)).trans ((hv3 99 y (by omega) (by omega)).trans ((hv2 99 y (by omega) (by omega)).trans ((hv1 99 y (by omega) (by omega)).trans (hg0 99 y (by omega)))))))
    have hK6 : TKS T L (ciP6 T L p) (mAdd g5 99 (ciK T L p) (ciH T L p) (ciC T L p) (ciS T L p) (ciB T L p)) := hK5.of (fun j _ _ => mAdd_ne (by decide))
    have e990 := e99 0
    refine k_if_ne 90 dX12_takesChild_85 (by decide) ⟨by decide, by decide⟩ (fun _ => ?_) (fun h => False.elim (by revert h; decide))
    refine k_aload_n dX12_takesChild_90 rfl ?_
    refine k_getR dX12_takesChild_91 f_X12_51 (Nat.le_of_ble_eq_true rfl) sh_o86 (fun _ => rfl) ?_
    refine k_aload_n dX12_takesChild_94 rfl ?_
    refine k_getR dX12_takesChild_95 f_X12_54 (Nat.le_of_ble_eq_true rfl) sh_o86 (fun _ => rfl) ?_
    refine k_iconst dX12_takesChild_98 ?_
    refine k_iald (0) dX12_takesChild_99 (Nat.le_of_ble_eq_true rfl) sh_a100 (by decide) (by omega) (by omega) ?_
    refine k_aload_n dX12_takesChild_100 rfl ?_
    refine k_getR dX12_takesChild_101 f_X12_54 (Nat.le_of_ble_eq_true rfl) sh_o86 (fun _ => rfl) ?_
    refine k_iconst dX12_takesChild_104 ?_
    refine k_iald (1) dX12_takesChild_105 (Nat.le_of_ble_eq_true rfl) sh_a100 (by decide) (by omega) (by omega) ?_
    refine k_aload_n dX12_takesChild_106 rfl ?_
    refine k_getR dX12_takesChild_107 f_X12_54 (Nat.le_of_ble_eq_true rfl) sh_o86 (fun _ => rfl) ?_
    refine k_iconst dX12_takesChild_110 ?_
    refine k_iald (2) dX12_takesChild_111 (Nat.le_of_ble_eq_true rfl) sh_a100 (by decide) (by omega) (by omega) ?_
    refine k_aload_n dX12_takesChild_112 rfl ?_
    refine k_getR dX12_takesChild_113 f_X12_54 (Nat.le_of_ble_eq_true rfl) sh_o86 (fun _ => rfl) ?_
    refine k_iconst dX12_takesChild_116 ?_
    refine k_iald (3) dX12_takesChild_117 (Nat.le_of_ble_eq_true rfl) sh_a100 (by decide) (by omega) (by omega) ?_
    refine k_aload_n dX12_takesChild_118 rfl ?_
    refine k_getR dX12_takesChild_119 f_X12_54 (Nat.le_of_ble_eq_true rfl) sh_o86 (fun _ => rfl) ?_
    refine k_iconst dX12_takesChild_122 ?_
    refine k_iald (4) dX12_takesChild_123 (Nat.le_of_ble_eq_true rfl) sh_a100 (by decide) (by omega) (by omega) ?_
    rw [e0, e1, e2, e3, e4]
    refine k_callSv [.ref _, .int (iI _), .int (iI _), .int (iI _), .int (iI _), .int (iI _)] dX12_takesChild_124 s_X12_takesChild_94 rfl (m_xLayChild99 (by omega)) rfl (Nat.le_of_ble_eq_true rfl) ?_
    rintro _ rfl
    refine k_iconst dX12_takesChild_127 ?_
    exact k_zret dX12_takesChild_128 rfl (Or.inr rfl) ⟨_, rfl, Or.inl ⟨⟨h15, q1, q2, q3, q4, q5⟩, h6, rfl, (((((hg0.tw.tr hv1.tw).tr hv2.tw).tr hv3.tw).tr hv4.tw).tr hv5.tw).tr (fun a b _ y _ => mAdd_ne y), hK6, fun y => mAdd_c e99 y⟩⟩
/-- the road that is told: the class's road V, the Model's row f -/
def AN (V : Mem) (f : Nat → Int) : Prop := (f 0 = V 0 2 ∧ f 1 = V 0 0 ∧ f 2 = V 0 1 ∧ f 3 = 0 ∧ f 4 = 0 ∧ f 5 = 0) ∧ (V 0 8 = 0 ∧ V 0 10 = 0 ∧ V 0 14 = 0) ∧ ∀ i : Nat, (i : Int) < V 0 2 → f (6 + 5 * i + 0) = V 1 i ∧ f (6 + 5 * i + 1) = V 2 i ∧ f (6 + 5 * i + 2) = V 3 i ∧ f (6 + 5 * i + 3) = V 4 i ∧ f (6 + 5 * i + 4) = V 5 i
theorem AN.begin {G : Mem} {r : Nat} {s l : Int} {f : Nat → Int} (hf : ∀ y, y < 74 → f y = (if y = 2 then l else if y = 1 then s else 0)) : AN (rv (rBegin G r s l) r) f := by
  unfold AN rBegin rv
  simp (disch := omega) only [ug_at, ug_np, Nat.add_zero]
  refine ⟨⟨hf 0 (by decide), hf 1 (by decide), hf 2 (by decide), hf 3 (by decide), hf 4 (by decide), hf 5 (by decide)⟩, ⟨by trivial, by trivial, by trivial⟩, fun i hi => absurd hi (by omega)⟩
theorem AN.add {G g : Mem} {r : Nat} {k h c s b : Int} {f : Nat → Int} (hA : AN (rv G r) (g 99)) (hn : 0 ≤ G r 2 ∧ G r 2 < 6) (hf : ∀ y, f y = mAdd g 99 k h c s b 99 y) : AN (rv (rAdd G r k h c s b) r) f := by
  obtain ⟨⟨a0, a1, a2, a3, a4, a5⟩, ⟨b0, b1, b2⟩, hr⟩ := hA
  change g 99 0 = G r 2 at a0
  change g 99 1 = G r 0 at a1
  change g 99 2 = G r 1 at a2
  change G r 8 = 0 at b0
  change G r 10 = 0 at b1
  change G r 14 = 0 at b2
  unfold AN rv
  simp only [hf]
  unfold mAdd rAdd
  rw [if_neg (by omega), a0]
  simp (disch := omega) only [ug_at, ug_np, ug_nc, Nat.add_zero]
  refine ⟨⟨trivial, a1, a2, a3, a4, a5⟩, ⟨b0, b1, trivial⟩, fun i hi => ?_⟩
  by_cases e : i = (G r 2).toNat
  · subst e
    simp (disch := omega) only [ug_at, ug_np, ug_nc]
    exact ⟨trivial, trivial, trivial, trivial, trivial⟩
  · have z := hr i (by show (i : Int) < G r 2; omega)
    simp (disch := omega) only [ug_np, ug_nc]
    exact z
def cn (G : Mem) (k : Nat) : Mem := fun x y => if x = 87 ∧ y < k then G 99 y else G x y
theorem cn_0 {G : Mem} : cn G 0 = G := by
  funext x y
  exact if_neg (fun q => by omega)
theorem cn_s {G : Mem} {k : Nat} : ug (cn G k) 87 k (cn G k 99 k) = cn G (k + 1) := by
  funext x y
  unfold ug cn
  rw [if_neg (show ¬ (99 = 87 ∧ k < k) by omega)]
  repeat' split
  all_goals first | rfl | (exfalso; omega) | exact mem_c (by omega)
theorem TKS.i {T : Nat → Int} {L p : Nat} {g : Mem} (hp : p ≤ L) (h : TKS T L p g) : TKS T L (tSk T L p) g := by
  unfold TKS
  rw [tSk_i hp]
  exact h
theorem lp_xCopy {G : Mem} {it : Int} : ∀ k : Nat, k ≤ 74 → RP M_X12_read 68 [some (.ref 86), some (.int (iI (it))), some (.int (iI (k : Int)))] [] (cn G k) (vi fun v g => it = v ∧ cn G 74 = g) := by
  refine cnt ?_ (fun k hk ih => ?_)
  · skip
    refine k_iload_n dX12_read_68 rfl ?_
    refine k_bipush dX12_read_69 (by decide) ?_
    refine k_icmp_ge 92 dX12_read_71 (by decide) ⟨by omega, by omega⟩ ⟨by decide, by decide⟩ (fun h71 => ?_) (fun h71 => absurd h71 (by omega))
    refine k_iload_n dX12_read_92 rfl ?_
    exact k_iret dX12_read_93 rfl ⟨_, rfl, rfl, rfl⟩
  · skip
    refine k_iload_n dX12_read_68 rfl ?_
    refine k_bipush dX12_read_69 (by decide) ?_
    refine k_icmp_ge 92 dX12_read_71 (by decide) ⟨by omega, by omega⟩ ⟨by decide, by decide⟩ (fun h71 => absurd h71 (by omega)) (fun h71 => ?_)
    refine k_aload_n dX12_read_74 rfl ?_
    refine k_getR dX12_read_75 f_X12_7 (Nat.le_of_ble_eq_true rfl) sh_o86 (fun _ => rfl) ?_
    refine k_iload_n dX12_read_78 rfl ?_
    refine k_aload_n dX12_read_79 rfl ?_
    refine k_getR dX12_read_80 f_X12_51 (Nat.le_of_ble_eq_true rfl) sh_o86 (fun _ => rfl) ?_
    refine k_iload_n dX12_read_83 rfl ?_
    refine k_iald k dX12_read_84 (Nat.le_of_ble_eq_true rfl) sh_a99 (by decide) (by omega) (by omega) ?_
    refine k_iast k dX12_read_85 (Nat.le_of_ble_eq_true rfl) sh_a87 (by decide) (by omega) (by omega) ?_
    refine k_iinc (L' := [_, _, _]) dX12_read_86 rfl (Nat.le_of_ble_eq_true rfl) rfl ?_
    refine k_goto 68 dX12_read_89 (by decide) ?_
    rw [cn_s]
    exact ih
theorem lp_xRead {T : Nat → Int} {L : Nat} {G : Mem} (hT : TB T) (hB : BT T L G) : ∀ (d it : Nat) (Gc g : Mem) (p : Nat) (F : Int × (Mem × Nat)), d + it = 8 → 1 ≤ it → it ≤ 7 → Gc 54 = T → tL Gc = L → p ≤ L → Gc 14 2 = (it : Int) - 1 → SC G g → AN (rv Gc 14) (g 99) → TKS T L p g → inF 14 d it Gc p = F → RP M_X12_read 26 [some (.ref 86), some (.int (iI (it : Int))), none] [] g (vi fun v k => F.1 = v ∧ (if 0 < F.1 then (∃ g1, SC G g1 ∧ AN (rv F.2.1 14) (g1 99) ∧ cn g1 74 = k) else SC G k)) := by
  intro d
  induction d with
  | zero => intro it Gc g p F h1 h2 h3; exact absurd h1 (by omega)
  | succ d ih =>
    intro it Gc g p F h1 h2 h3 hGT hGL hp hn hg hA hK hF
    have e : inF 14 (d + 1) it Gc p = _ := inF.eq_2 14 it Gc p d
    rw [hGT, hGL, hF] at e
    have hBg := hB.sc hg
    have hKi := hK.i hp
    have hqL := (tSk_b (T := T) hp).2
    have hii := tSk_i (T := T) hp
    have kb := tKd_b (T := T) (L := L) (s := (tSk T L p))
    have k0 := tKd_0 (T := T) (L := L) (s := (tSk T L p))
    have k3 := hK.2.2.1
    have a0 : g 99 0 = (it : Int) - 1 := hA.1.1.trans hn
    rcases (show L ≤ (tSk T L p) ∨ (tSk T L p) < L by omega) with hq | hq
    · rw [if_pos (Or.inr hq), if_pos ⟨by omega, hq⟩] at e
      subst e
      have z : tKd T L (tSk T L p) = 0 := k0.mpr hq
      refine k_aload_n dX12_read_26 rfl ?_
      refine k_getI dX12_read_27 f_X12_242 (Nat.le_of_ble_eq_true rfl) sh_o86 (fun _ => rfl) ?_
      refine k_if_eq 66 dX12_read_30 (by decide) ⟨by omega, by omega⟩ (fun h30 => ?_) (fun h30 => absurd h30 (by omega))
      refine k_iconst dX12_read_66 ?_
      refine k_istore_n (L' := [_, _, _]) dX12_read_67 (Nat.le_of_ble_eq_true rfl) rfl ?_
      have hc := lp_xCopy (G := g) (it := (it : Int)) 0 (by omega)
      rw [cn_0] at hc
      refine hc.mono ?_
      rintro o k ⟨v, h1, h2, h3⟩
      exact ⟨v, h1, h2, by rw [if_pos (by show (0 : Int) < (it : Int); omega)]; exact ⟨g, hg, hA, h3⟩⟩
    have z : ¬ tKd T L (tSk T L p) = 0 := fun q => by have := k0.mp q; omega
    refine k_aload_n dX12_read_26 rfl ?_
    refine k_getI dX12_read_27 f_X12_242 (Nat.le_of_ble_eq_true rfl) sh_o86 (fun _ => rfl) ?_
    refine k_if_eq 66 dX12_read_30 (by decide) ⟨by omega, by omega⟩ (fun h30 => absurd h30 (by omega)) (fun h30 => ?_)
    refine k_aload_n dX12_read_33 rfl ?_
    refine k_callVi [] dX12_read_34 s_X12_read_270 rfl (m_xTakesChild hT hBg hqL hKi (by omega)) rfl (Nat.le_of_ble_eq_true rfl) sh_o86 ⟨_, rfl, rfl⟩ (Nat.le_of_ble_eq_true rfl) ?_
    intro v g2 hv
    rcases hv with ⟨hci, h6, rfl, hw, hK2, h99⟩ | ⟨rfl, hw, h6, h7⟩
    rotate_left
    · skip
      refine k_if_eq 48 dX12_read_37 (by decide) ⟨by decide, by decide⟩ (fun _ => ?_) (fun h => False.elim (by revert h; decide))
      refine k_bipush dX12_read_48 (by decide) ?_
      refine k_aload_n dX12_read_50 rfl ?_
      refine k_getI dX12_read_51 f_X12_236 (Nat.le_of_ble_eq_true rfl) sh_o86 (fun _ => rfl) ?_
      have hfin : F.1 = -10 - g2 86 16 ∧ F.1 < 0 := by
        rcases (show it = 7 ∨ it < 7 by omega) with h9 | h9
        · rw [if_pos (Or.inl (by omega)), if_neg (fun q => by omega)] at e
          have := h7 (by omega)
          rw [hii] at this
          rw [e, this]
          exact ⟨rfl, by show -10 - ((tSk T L p) : Int) < 0; omega⟩
        · have h8 := h6 (by omega)
          rw [if_neg (by omega), if_neg (by omega), if_neg (fun q => h8.1 (ciO_A.mp q).1)] at e
          rw [e, h8.2]
          exact ⟨rfl, by show -10 - (ciE T L (tSk T L p) : Int) < 0; omega⟩
      refine k_isub dX12_read_54 ?_
      exact k_iret dX12_read_55 rfl ⟨_, rfl, hfin.1, by rw [if_neg (by omega)]; exact hg.tr hw.sc⟩
    rw [if_neg (by omega), if_neg (by omega)] at e
    have hE := ciE_A hci
    have hp6 : ciP6 T L (tSk T L p) ≤ L := nTo_b (nTo_b (nTo_b (nTo_b (nTo_b (wTo_b hqL)))))
    have k6 := hK2.2.2.1
    have kb6 := tKd_b (T := T) (L := L) (s := tSk T L (ciP6 T L (tSk T L p)))
    have hBg2 := hBg.tw hw
    by_cases hs : sOk T L (ciP6 T L (tSk T L p)) = true
    · have k6b := sOk_k.mp hs
      rw [if_pos (ciO_A.mpr ⟨hci, hs⟩)] at e
      refine k_if_eq 48 dX12_read_37 (by decide) ⟨by decide, by decide⟩ (fun h => False.elim (by revert h; decide)) (fun _ => ?_)
      refine k_aload_n dX12_read_40 rfl ?_
      refine k_getI dX12_read_41 f_X12_242 (Nat.le_of_ble_eq_true rfl) sh_o86 (fun _ => rfl) ?_
      refine k_iconst dX12_read_44 ?_
      refine k_icmp_eq 56 dX12_read_45 (by decide) ⟨by omega, by omega⟩ ⟨by decide, by decide⟩ (fun h45 => ?_) (fun h45 => absurd h45 (by omega))
      refine k_aload_n dX12_read_56 rfl ?_
      refine k_callVv [] dX12_read_57 s_X12_read_257 rfl (m_xGoBehind hT hBg2 hp6 hK2) rfl (Nat.le_of_ble_eq_true rfl) sh_o86 ⟨_, rfl, rfl⟩ (Nat.le_of_ble_eq_true rfl) ?_
      rintro g3 ⟨hg3, hK3⟩
      rw [sTo_k hs, ← hE] at hK3
      refine k_iinc (L' := [_, _, _]) dX12_read_60 rfl (Nat.le_of_ble_eq_true rfl) rfl ?_
      refine k_goto 26 dX12_read_63 (by decide) ?_
      refine ih (it + 1) (rAdd Gc 14 (ciK T L (tSk T L p)) (ciH T L (tSk T L p)) (ciC T L (tSk T L p)) (ciS T L (tSk T L p)) (ciB T L (tSk T L p))) g3 (ciE T L (tSk T L p)) F (by omega) (by omega) (by omega) (by funext y; rw [rAdd_ne (by decide)]; exact congrFun hGT y) (by show (rAdd _ _ _ _ _ _ _ 53 1).toNat = L; rw [rAdd_ne (by decide)]; exact hGL) (ciE_b hqL) ?_ ((hg.tr hw.sc).tr hg3.sc) ?_ hK3 e.symm
      · unfold rAdd
        rw [if_neg (by omega)]
        simp (disch := omega) only [ug_at, ug_np]
        omega
      · exact AN.add (g := g) hA (by omega) (fun y => (hg3 99 y (by omega)).trans (h99 y))
    · have k6b : ¬ tKd T L (tSk T L (ciP6 T L (tSk T L p))) = 3 := fun q => hs (sOk_k.mpr q)
      rw [if_neg (fun q => hs (ciO_A.mp q).2)] at e
      have h16 : g2 86 16 = (ciE T L (tSk T L p) : Int) := by rw [hE, sTo_n hs]; exact hK2.1
      refine k_if_eq 48 dX12_read_37 (by decide) ⟨by decide, by decide⟩ (fun h => False.elim (by revert h; decide)) (fun _ => ?_)
      refine k_aload_n dX12_read_40 rfl ?_
      refine k_getI dX12_read_41 f_X12_242 (Nat.le_of_ble_eq_true rfl) sh_o86 (fun _ => rfl) ?_
      refine k_iconst dX12_read_44 ?_
      refine k_icmp_eq 56 dX12_read_45 (by decide) ⟨by omega, by omega⟩ ⟨by decide, by decide⟩ (fun h45 => absurd h45 (by omega)) (fun h45 => ?_)
      refine k_bipush dX12_read_48 (by decide) ?_
      refine k_aload_n dX12_read_50 rfl ?_
      refine k_getI dX12_read_51 f_X12_236 (Nat.le_of_ble_eq_true rfl) sh_o86 (fun _ => rfl) ?_
      refine k_isub dX12_read_54 ?_
      exact k_iret dX12_read_55 rfl ⟨_, rfl, by rw [e, h16], by rw [e, if_neg (by show ¬ 0 < -10 - (_ : Int); omega)]; exact hg.tr hw.sc⟩
theorem m_xRead {T : Nat → Int} {L : Nat} {G Gc : Mem} (hT : TB T) (hB : BT T L G) (hGT : Gc 54 = T) (hGL : tL Gc = L) {F : Int × (Mem × Nat)} (hF : inF 14 8 0 Gc 0 = F) : MP M_X12_read [.ref 86] G (vi fun v k => F.1 = v ∧ (if 0 < F.1 then (∃ g1, SC G g1 ∧ AN (rv F.2.1 14) (g1 99) ∧ cn g1 74 = k) else SC G k)) := by
  refine MP.of [some (.ref 86), none, none] (plainFor_of_name pn_X12) (Nat.le_of_ble_eq_true rfl) rfl ?_
  refine k_aload_n dX12_read_0 rfl ?_
  refine k_iconst dX12_read_1 ?_
  refine k_callVv [.int (iI _)] dX12_read_2 s_X12_read_254 rfl (m_xLookAt (p := 0) hT hB (Nat.zero_le _)) rfl (Nat.le_of_ble_eq_true rfl) sh_o86 ⟨_, rfl, rfl⟩ (Nat.le_of_ble_eq_true rfl) ?_
  rintro g ⟨hg, hK⟩
  have hBg := hB.tf hg
  refine k_aload_n dX12_read_5 rfl ?_
  refine k_callVi [] dX12_read_6 s_X12_read_267 rfl (m_xTakesFirst hT hBg (tSk_b (T := T) (Nat.zero_le L)).2 (hK.i (Nat.zero_le _))) rfl (Nat.le_of_ble_eq_true rfl) sh_o86 ⟨_, rfl, rfl⟩ (Nat.le_of_ble_eq_true rfl) ?_
  intro v g2 hv
  have hii := tSk_i (T := T) (Nat.zero_le L)
  have hqL := (tSk_b (T := T) (Nat.zero_le L)).2
  have e : inF 14 8 0 Gc 0 = _ := inF.eq_2 14 0 Gc 0 7
  rw [hGT, hGL, hF] at e
  rcases hv with ⟨hr, rfl, hw, hK2, h99⟩ | ⟨hr, rfl, hw, h16⟩
  rotate_left
  · have hfin : F.1 = -10 - g2 86 16 ∧ F.1 < 0 := by
      by_cases hL0 : 6 < 0 ∨ L ≤ tSk T L 0
      · have hz : ¬ wOk T L 0 (tSk T L 0) = true := fun q => by
          have q1 := tKd_1.mp ((wOk_iff (m := 4) rfl (by decide)).mp q).1
          rw [hii] at q1
          omega
        have hz2 : riE T L (tSk T L 0) = tSk T L 0 := by
          unfold riE riP1
          rw [if_pos hz, wTo_n hz, hii]
        rw [if_pos hL0, if_neg (fun q => q.1 rfl)] at e
        rw [e, h16, hz2]
        exact ⟨rfl, by show -10 - (tSk T L 0 : Int) < 0; omega⟩
      · rw [if_neg hL0, if_pos rfl, if_neg hr] at e
        rw [e, h16]
        exact ⟨rfl, by show -10 - (riE T L (tSk T L 0) : Int) < 0; omega⟩
    refine k_if_ne 20 dX12_read_9 (by decide) ⟨by decide, by decide⟩ (fun h => False.elim (by revert h; decide)) (fun _ => ?_)
    refine k_bipush dX12_read_12 (by decide) ?_
    refine k_aload_n dX12_read_14 rfl ?_
    refine k_getI dX12_read_15 f_X12_236 (Nat.le_of_ble_eq_true rfl) sh_o86 (fun _ => rfl) ?_
    refine k_isub dX12_read_18 ?_
    exact k_iret dX12_read_19 rfl ⟨_, rfl, hfin.1, by rw [if_neg (by omega)]; exact hg.sc.tr hw.sc⟩
  have q1 := tKd_1.mp ((wOk_iff (m := 4) rfl (by decide)).mp (riO_iff.mp hr).1).1
  rw [hii] at q1
  rw [if_neg (fun q => by omega), if_pos rfl, if_pos hr] at e
  have hs := (riO_iff.mp hr).2.2.2
  have hE : riE T L (tSk T L 0) = sTo T L (riP3 T L (tSk T L 0)) := by
    have k := riO_iff.mp hr
    unfold riE
    rw [if_neg (fun z => z k.1), if_neg (by have := k.2.1; omega), if_neg (by have := k.2.2.1; omega)]
  have hp3 : riP3 T L (tSk T L 0) ≤ L := nTo_b (nTo_b (wTo_b hqL))
  refine k_if_ne 20 dX12_read_9 (by decide) ⟨by decide, by decide⟩ (fun _ => ?_) (fun h => False.elim (by revert h; decide))
  refine k_aload_n dX12_read_20 rfl ?_
  refine k_callVv [] dX12_read_21 s_X12_read_257 rfl (m_xGoBehind hT (hBg.tw hw) hp3 hK2) rfl (Nat.le_of_ble_eq_true rfl) sh_o86 ⟨_, rfl, rfl⟩ (Nat.le_of_ble_eq_true rfl) ?_
  rintro g3 ⟨hg3, hK3⟩
  rw [sTo_k hs, ← hE] at hK3
  refine k_iconst dX12_read_24 ?_
  refine k_istore_n (L' := [_, _, _]) dX12_read_25 (Nat.le_of_ble_eq_true rfl) rfl ?_
  refine lp_xRead hT hB 7 1 (rBegin Gc 14 (riS T L (tSk T L 0)) (riL T L (tSk T L 0))) g3 (riE T L (tSk T L 0)) F rfl (by decide) (by decide) (by funext y; rw [rBegin_ne (by decide)]; exact congrFun hGT y) (by show (rBegin _ _ _ _ 53 1).toNat = L; rw [rBegin_ne (by decide)]; exact hGL) (riE_b hqL) rBegin_n ((hg.sc.tr hw.sc).tr hg3.sc) ?_ hK3 e.symm
  exact AN.begin (fun y hy => (hg3 99 y (by omega)).trans (h99 y hy))
