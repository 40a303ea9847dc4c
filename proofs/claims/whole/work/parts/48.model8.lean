/-! ===== the Model: read ===== -/
theorem tLn_b {T : Nat → Int} {L p : Nat} (hp : p ≤ L) : tSk T L p + tLn T L (tSk T L p) ≤ L := by
  have h := tSk_b (T := T) hp
  unfold tLn
  split
  · omega
  · next h1 =>
    split
    · next h2 => have := tEn_p (T := T) (L := L) (by omega) h2; omega
    · split
      · next h3 => have := tEn_p (T := T) (L := L) (by omega) h3; omega
      · omega
/-- a kind, a length, a word -/
theorem wEq_s {T : Nat → Int} {u q i : Nat} : wEq T u q (i + 1) = true ↔ wEq T u q i = true ∧ T (q + i) = (q_ch u i : Int) := by
  show (wEq T u q i && (T (q + i) == (q_ch u i : Int))) = true ↔ _
  rw [Bool.and_eq_true, beq_iff_eq]
theorem wEq_4 {T : Nat → Int} {q : Nat} : wEq T 0 q 4 = true ↔ T (q + 0) = 114 ∧ T (q + 1) = 111 ∧ T (q + 2) = 97 ∧ T (q + 3) = 100 := by
  rw [wEq_s, wEq_s, wEq_s, wEq_s]
  show (((true = true ∧ T (q + 0) = 114) ∧ T (q + 1) = 111) ∧ T (q + 2) = 97) ∧ T (q + 3) = 100 ↔ _
  constructor
  · rintro ⟨⟨⟨⟨_, a⟩, b⟩, c⟩, d⟩; exact ⟨a, b, c, d⟩
  · rintro ⟨a, b, c, d⟩; exact ⟨⟨⟨⟨rfl, a⟩, b⟩, c⟩, d⟩
theorem wEq_5 {T : Nat → Int} {q : Nat} : wEq T 1 q 5 = true ↔ T (q + 0) = 99 ∧ T (q + 1) = 104 ∧ T (q + 2) = 105 ∧ T (q + 3) = 108 ∧ T (q + 4) = 100 := by
  rw [wEq_s, wEq_s, wEq_s, wEq_s, wEq_s]
  show ((((true = true ∧ T (q + 0) = 99) ∧ T (q + 1) = 104) ∧ T (q + 2) = 105) ∧ T (q + 3) = 108) ∧ T (q + 4) = 100 ↔ _
  constructor
  · rintro ⟨⟨⟨⟨⟨_, a⟩, b⟩, c⟩, d⟩, e⟩; exact ⟨a, b, c, d, e⟩
  · rintro ⟨a, b, c, d, e⟩; exact ⟨⟨⟨⟨⟨rfl, a⟩, b⟩, c⟩, d⟩, e⟩
theorem tKd_1 {T : Nat → Int} {L s : Nat} : tKd T L s = 1 ↔ s < L ∧ 97 ≤ T s ∧ T s ≤ 122 := by
  unfold tKd
  repeat' split
  all_goals omega
theorem tKd_3 {T : Nat → Int} {L s : Nat} : tKd T L s = 3 ↔ s < L ∧ T s = 59 := by
  unfold tKd
  repeat' split
  all_goals omega
theorem tKd_0 {T : Nat → Int} {L s : Nat} : tKd T L s = 0 ↔ L ≤ s := by
  unfold tKd
  repeat' split
  all_goals omega
theorem tKd_2 {T : Nat → Int} {L s : Nat} : tKd T L s = 2 ↔ s < L ∧ (48 ≤ T s ∧ T s ≤ 57) ∧ tEn T L 48 57 s ≤ s + 2 := by
  unfold tKd
  repeat' split
  all_goals omega
theorem tKd_b {T : Nat → Int} {L s : Nat} : 0 ≤ tKd T L s ∧ tKd T L s ≤ 4 := by
  unfold tKd
  repeat' split
  all_goals omega
theorem wOk_iff {T : Nat → Int} {L u p m : Nat} (hm : q_sl u = m) (h0 : 0 < m) : wOk T L u p = true ↔ tKd T L (tSk T L p) = 1 ∧ tLn T L (tSk T L p) = m ∧ wEq T u (tSk T L p) m = true := by
  unfold wOk
  rw [Bool.and_eq_true, Bool.and_eq_true, decide_eq_true_iff, decide_eq_true_iff, hm, tKd_1]
  constructor
  · rintro ⟨h1, h2, h3⟩
    have hc : 97 ≤ T (tSk T L p) ∧ T (tSk T L p) ≤ 122 := Classical.byContradiction (fun q => by rw [tEn_0 q] at h2; omega)
    refine ⟨⟨h1, hc⟩, ?_, h3⟩
    unfold tLn
    rw [if_neg (by omega), if_pos hc]
    omega
  · rintro ⟨⟨h1, hc⟩, h2, h3⟩
    unfold tLn at h2
    rw [if_neg (by omega), if_pos hc] at h2
    exact ⟨h1, by omega, h3⟩
theorem nVal_k {T : Nat → Int} {L p : Nat} {lo hi : Int} (hlo : 0 ≤ lo) : nVal T L lo hi p = (if tKd T L (tSk T L p) = 2 ∧ lo ≤ q_num T (tSk T L p) (tEn T L 48 57 (tSk T L p) - tSk T L p) ∧ q_num T (tSk T L p) (tEn T L 48 57 (tSk T L p) - tSk T L p) ≤ hi then q_num T (tSk T L p) (tEn T L 48 57 (tSk T L p) - tSk T L p) else -1) := by
  by_cases h1 : L ≤ tSk T L p
  · rw [nVal_1 h1, if_neg (fun q => by have := tKd_2.mp q.1; omega)]
  · by_cases hc : 48 ≤ T (tSk T L p) ∧ T (tSk T L p) ≤ 57
    · have hb := tEn_p (T := T) (L := L) (by omega) hc
      by_cases h2 : tSk T L p + 2 < tEn T L 48 57 (tSk T L p)
      · rw [nVal_2 h1 (Or.inr h2), if_neg (fun q => by have := tKd_2.mp q.1; omega)]
      · rw [nVal_3 h1 (by omega) rfl]
        by_cases h3 : q_num T (tSk T L p) (tEn T L 48 57 (tSk T L p) - tSk T L p) < lo ∨ hi < q_num T (tSk T L p) (tEn T L 48 57 (tSk T L p) - tSk T L p)
        · rw [if_pos h3, if_neg (fun q => by omega)]
        · rw [if_neg h3, if_pos ⟨tKd_2.mpr ⟨by omega, hc, by omega⟩, by omega, by omega⟩]
    · rw [nVal_2 h1 (Or.inl (tEn_0 hc)), if_neg (fun q => hc (tKd_2.mp q.1).2.1)]
theorem m_xGoBehind {T : Nat → Int} {L : Nat} {G : Mem} (hT : TB T) (hB : BT T L G) {p : Nat} (hp : p ≤ L) (hK : TKS T L p G)  : MP M_X12_goBehind [.ref 86] G (vv fun k => TF G k ∧ TKS T L ((tSk T L p) + tLn T L (tSk T L p)) k) := by
  have hb := tLn_b (T := T) hp
  have hl2 := hB.2.1
  have k1 := hK.1
  have k2 := hK.2.1
  refine MP.of [some (.ref 86)] (plainFor_of_name pn_X12) (Nat.le_of_ble_eq_true rfl) rfl ?_
  refine k_aload_n dX12_goBehind_0 rfl ?_
  refine k_aload_n dX12_goBehind_1 rfl ?_
  refine k_getI dX12_goBehind_2 f_X12_236 (Nat.le_of_ble_eq_true rfl) sh_o86 (fun _ => rfl) ?_
  refine k_aload_n dX12_goBehind_5 rfl ?_
  refine k_getI dX12_goBehind_6 f_X12_239 (Nat.le_of_ble_eq_true rfl) sh_o86 (fun _ => rfl) ?_
  refine k_iadd dX12_goBehind_9 ?_
  rw [show G 86 16 + G 86 17 = (((tSk T L p) + tLn T L (tSk T L p) : Nat) : Int) by omega]
  refine k_callVv [.int (iI _)] dX12_goBehind_10 s_X12_goBehind_254 rfl (m_xLookAt hT hB hb) rfl (Nat.le_of_ble_eq_true rfl) sh_o86 ⟨_, rfl, rfl⟩ (Nat.le_of_ble_eq_true rfl) ?_
  rintro g hg
  exact k_ret dX12_goBehind_13 rfl ⟨rfl, hg⟩
theorem m_xIsWRoad {T : Nat → Int} {L : Nat} {G : Mem} (hT : TB T) (hB : BT T L G) {p : Nat} (hp : p ≤ L) (hK : TKS T L p G)  : MP M_X12_isCalled [.ref 86, .int (iI 4), .int (iI 114), .int (iI 111), .int (iI 97), .int (iI 100), .int (iI 0)] G (vx (bI (wOk T L 0 p = true)) G) := by
  have hb := tLn_b (T := T) hp
  have hl2 := hB.2.1
  have k1 := hK.1
  have k2 := hK.2.1
  have k3 := hK.2.2.1
  have kb := tKd_b (T := T) (L := L) (s := (tSk T L p))
  have hw := wOk_iff (T := T) (L := L) (p := p) (u := 0) (m := 4) rfl (by decide)
  rw [wEq_4] at hw
  have c0 : tKd T L (tSk T L p) = 1 → tLn T L (tSk T L p) = 4 → G 98 ((tSk T L p) + 0) = T ((tSk T L p) + 0) := fun _ q => hB.2.2 _ (by omega)
  have t0 := hT ((tSk T L p) + 0)
  have c1 : tKd T L (tSk T L p) = 1 → tLn T L (tSk T L p) = 4 → G 98 ((tSk T L p) + 1) = T ((tSk T L p) + 1) := fun _ q => hB.2.2 _ (by omega)
  have t1 := hT ((tSk T L p) + 1)
  have c2 : tKd T L (tSk T L p) = 1 → tLn T L (tSk T L p) = 4 → G 98 ((tSk T L p) + 2) = T ((tSk T L p) + 2) := fun _ q => hB.2.2 _ (by omega)
  have t2 := hT ((tSk T L p) + 2)
  have c3 : tKd T L (tSk T L p) = 1 → tLn T L (tSk T L p) = 4 → G 98 ((tSk T L p) + 3) = T ((tSk T L p) + 3) := fun _ q => hB.2.2 _ (by omega)
  have t3 := hT ((tSk T L p) + 3)
  refine MP.of [some (.ref 86), some (.int (iI 4)), some (.int (iI 114)), some (.int (iI 111)), some (.int (iI 97)), some (.int (iI 100)), some (.int (iI 0)), none, none] (plainFor_of_name pn_X12) (Nat.le_of_ble_eq_true rfl) rfl ?_
  rcases (show (tKd T L (tSk T L p) = 1 ∧ tLn T L (tSk T L p) = 4) ∨ ¬ tKd T L (tSk T L p) = 1 ∨ (tKd T L (tSk T L p) = 1 ∧ ¬ tLn T L (tSk T L p) = 4) by omega) with hA | hA | hA
  · skip
    refine k_aload_n dX12_isCalled_0 rfl ?_
    refine k_getI dX12_isCalled_1 f_X12_242 (Nat.le_of_ble_eq_true rfl) sh_o86 (fun _ => rfl) ?_
    refine k_iconst dX12_isCalled_4 ?_
    refine k_icmp_ne 20 dX12_isCalled_5 (by decide) ⟨by omega, by omega⟩ ⟨by decide, by decide⟩ (fun h5 => absurd h5 (by omega)) (fun h5 => ?_)
    refine k_aload_n dX12_isCalled_8 rfl ?_
    refine k_getI dX12_isCalled_9 f_X12_239 (Nat.le_of_ble_eq_true rfl) sh_o86 (fun _ => rfl) ?_
    refine k_iload_n dX12_isCalled_12 rfl ?_
    refine k_icmp_ne 20 dX12_isCalled_13 (by decide) ⟨by omega, by omega⟩ ⟨by decide, by decide⟩ (fun h13 => absurd h13 (by omega)) (fun h13 => ?_)
    refine k_iconst dX12_isCalled_16 ?_
    refine k_goto 21 dX12_isCalled_17 (by decide) ?_
    refine k_istore (L' := [_, _, _, _, _, _, _, _, _]) dX12_isCalled_21 (Nat.le_of_ble_eq_true rfl) rfl ?_
    refine k_iconst dX12_isCalled_23 ?_
    refine k_istore (L' := [_, _, _, _, _, _, _, _, _]) dX12_isCalled_24 (Nat.le_of_ble_eq_true rfl) rfl ?_
    refine k_iload dX12_isCalled_26 rfl ?_
    refine k_iload_n dX12_isCalled_28 rfl ?_
    refine k_icmp_ge 108 dX12_isCalled_29 (by decide) ⟨by decide, by decide⟩ ⟨by decide, by decide⟩ (fun h => False.elim (by revert h; decide)) (fun _ => ?_)
    refine k_iload dX12_isCalled_32 rfl ?_
    refine k_if_eq 108 dX12_isCalled_34 (by decide) ⟨by decide, by decide⟩ (fun h => False.elim (by revert h; decide)) (fun _ => ?_)
    refine k_aload_n dX12_isCalled_37 rfl ?_
    refine k_getR dX12_isCalled_38 f_X12_48 (Nat.le_of_ble_eq_true rfl) sh_o86 (fun _ => rfl) ?_
    refine k_aload_n dX12_isCalled_41 rfl ?_
    refine k_getI dX12_isCalled_42 f_X12_236 (Nat.le_of_ble_eq_true rfl) sh_o86 (fun _ => rfl) ?_
    refine k_iload dX12_isCalled_45 rfl ?_
    refine k_iadd dX12_isCalled_47 ?_
    refine k_iald ((tSk T L p) + 0) dX12_isCalled_48 (Nat.le_of_ble_eq_true rfl) sh_a98 (by decide) (by omega) (by omega) ?_
    rw [c0 hA.1 hA.2]
    refine k_iload dX12_isCalled_49 rfl ?_
    refine k_if_ne 58 dX12_isCalled_51 (by decide) ⟨by decide, by decide⟩ (fun h => False.elim (by revert h; decide)) (fun _ => ?_)
    refine k_iload_n dX12_isCalled_54 rfl ?_
    refine k_goto 92 dX12_isCalled_55 (by decide) ?_
    refine k_icmp_ne 99 dX12_isCalled_92 (by decide) ⟨by omega, by omega⟩ ⟨by decide, by decide⟩ (fun h92 => ?_) (fun h92 => ?_)
    · skip
      refine k_iconst dX12_isCalled_99 ?_
      refine k_istore (L' := [_, _, _, _, _, _, _, _, _]) dX12_isCalled_100 (Nat.le_of_ble_eq_true rfl) rfl ?_
      refine k_iinc (L' := [_, _, _, _, _, _, _, _, _]) dX12_isCalled_102 rfl (Nat.le_of_ble_eq_true rfl) rfl ?_
      refine k_goto 26 dX12_isCalled_105 (by decide) ?_
      refine k_iload dX12_isCalled_26 rfl ?_
      refine k_iload_n dX12_isCalled_28 rfl ?_
      refine k_icmp_ge 108 dX12_isCalled_29 (by decide) ⟨by decide, by decide⟩ ⟨by decide, by decide⟩ (fun h => False.elim (by revert h; decide)) (fun _ => ?_)
      refine k_iload dX12_isCalled_32 rfl ?_
      refine k_if_eq 108 dX12_isCalled_34 (by decide) ⟨by decide, by decide⟩ (fun _ => ?_) (fun h => False.elim (by revert h; decide))
      refine k_iload dX12_isCalled_108 rfl ?_
      exact k_zret dX12_isCalled_110 rfl (Or.inl rfl) ⟨_, rfl, by first | exact bI_f (fun q => by have z := hw.mp q; omega) | exact bI_t (hw.mpr ⟨by omega, by omega, by omega⟩), rfl⟩
    · skip
      refine k_iconst dX12_isCalled_95 ?_
      refine k_goto 100 dX12_isCalled_96 (by decide) ?_
      refine k_istore (L' := [_, _, _, _, _, _, _, _, _]) dX12_isCalled_100 (Nat.le_of_ble_eq_true rfl) rfl ?_
      refine k_iinc (L' := [_, _, _, _, _, _, _, _, _]) dX12_isCalled_102 rfl (Nat.le_of_ble_eq_true rfl) rfl ?_
      refine k_goto 26 dX12_isCalled_105 (by decide) ?_
      refine k_iload dX12_isCalled_26 rfl ?_
      refine k_iload_n dX12_isCalled_28 rfl ?_
      refine k_icmp_ge 108 dX12_isCalled_29 (by decide) ⟨by decide, by decide⟩ ⟨by decide, by decide⟩ (fun h => False.elim (by revert h; decide)) (fun _ => ?_)
      refine k_iload dX12_isCalled_32 rfl ?_
      refine k_if_eq 108 dX12_isCalled_34 (by decide) ⟨by decide, by decide⟩ (fun h => False.elim (by revert h; decide)) (fun _ => ?_)
      refine k_aload_n dX12_isCalled_37 rfl ?_
      refine k_getR dX12_isCalled_38 f_X12_48 (Nat.le_of_ble_eq_true rfl) sh_o86 (fun _ => rfl) ?_
      refine k_aload_n dX12_isCalled_41 rfl ?_
      refine k_getI dX12_isCalled_42 f_X12_236 (Nat.le_of_ble_eq_true rfl) sh_o86 (fun _ => rfl) ?_
      refine k_iload dX12_isCalled_45 rfl ?_
      refine k_iadd dX12_isCalled_47 ?_
      refine k_iald ((tSk T L p) + 1) dX12_isCalled_48 (Nat.le_of_ble_eq_true rfl) sh_a98 (by decide) (by omega) (by omega) ?_
      rw [c1 hA.1 hA.2]
      refine k_iload dX12_isCalled_49 rfl ?_
      refine k_if_ne 58 dX12_isCalled_51 (by decide) ⟨by decide, by decide⟩ (fun _ => ?_) (fun h => False.elim (by revert h; decide))
      refine k_iload dX12_isCalled_58 rfl ?_
      refine k_iconst dX12_isCalled_60 ?_
      refine k_icmp_ne 68 dX12_isCalled_61 (by decide) ⟨by decide, by decide⟩ ⟨by decide, by decide⟩ (fun h => False.elim (by revert h; decide)) (fun _ => ?_)
      refine k_iload_n dX12_isCalled_64 rfl ?_
      refine k_goto 92 dX12_isCalled_65 (by decide) ?_
      refine k_icmp_ne 99 dX12_isCalled_92 (by decide) ⟨by omega, by omega⟩ ⟨by decide, by decide⟩ (fun h92 => ?_) (fun h92 => ?_)
      · skip
        refine k_iconst dX12_isCalled_99 ?_
        refine k_istore (L' := [_, _, _, _, _, _, _, _, _]) dX12_isCalled_100 (Nat.le_of_ble_eq_true rfl) rfl ?_
        refine k_iinc (L' := [_, _, _, _, _, _, _, _, _]) dX12_isCalled_102 rfl (Nat.le_of_ble_eq_true rfl) rfl ?_
        refine k_goto 26 dX12_isCalled_105 (by decide) ?_
        refine k_iload dX12_isCalled_26 rfl ?_
        refine k_iload_n dX12_isCalled_28 rfl ?_
        refine k_icmp_ge 108 dX12_isCalled_29 (by decide) ⟨by decide, by decide⟩ ⟨by decide, by decide⟩ (fun h => False.elim (by revert h; decide)) (fun _ => ?_)
        refine k_iload dX12_isCalled_32 rfl ?_
        refine k_if_eq 108 dX12_isCalled_34 (by decide) ⟨by decide, by decide⟩ (fun _ => ?_) (fun h => False.elim (by revert h; decide))
        refine k_iload dX12_isCalled_108 rfl ?_
        exact k_zret dX12_isCalled_110 rfl (Or.inl rfl) ⟨_, rfl, by first | exact bI_f (fun q => by have z := hw.mp q; omega) | exact bI_t (hw.mpr ⟨by omega, by omega, by omega⟩), rfl⟩
      · skip
        refine k_iconst dX12_isCalled_95 ?_
        refine k_goto 100 dX12_isCalled_96 (by decide) ?_
        refine k_istore (L' := [_, _, _, _, _, _, _, _, _]) dX12_isCalled_100 (Nat.le_of_ble_eq_true rfl) rfl ?_
        refine k_iinc (L' := [_, _, _, _, _, _, _, _, _]) dX12_isCalled_102 rfl (Nat.le_of_ble_eq_true rfl) rfl ?_
        refine k_goto 26 dX12_isCalled_105 (by decide) ?_
        refine k_iload dX12_isCalled_26 rfl ?_
        refine k_iload_n dX12_isCalled_28 rfl ?_
        refine k_icmp_ge 108 dX12_isCalled_29 (by decide) ⟨by decide, by decide⟩ ⟨by decide, by decide⟩ (fun h => False.elim (by revert h; decide)) (fun _ => ?_)
        refine k_iload dX12_isCalled_32 rfl ?_
        refine k_if_eq 108 dX12_isCalled_34 (by decide) ⟨by decide, by decide⟩ (fun h => False.elim (by revert h; decide)) (fun _ => ?_)
        refine k_aload_n dX12_isCalled_37 rfl ?_
        refine k_getR dX12_isCalled_38 f_X12_48 (Nat.le_of_ble_eq_true rfl) sh_o86 (fun _ => rfl) ?_
        refine k_aload_n dX12_isCalled_41 rfl ?_
        refine k_getI dX12_isCalled_42 f_X12_236 (Nat.le_of_ble_eq_true rfl) sh_o86 (fun _ => rfl) ?_
        refine k_iload dX12_isCalled_45 rfl ?_
        refine k_iadd dX12_isCalled_47 ?_
        refine k_iald ((tSk T L p) + 2) dX12_isCalled_48 (Nat.le_of_ble_eq_true rfl) sh_a98 (by decide) (by omega) (by omega) ?_
        rw [c2 hA.1 hA.2]
        refine k_iload dX12_isCalled_49 rfl ?_
        refine k_if_ne 58 dX12_isCalled_51 (by decide) ⟨by decide, by decide⟩ (fun _ => ?_) (fun h => False.elim (by revert h; decide))
        refine k_iload dX12_isCalled_58 rfl ?_
        refine k_iconst dX12_isCalled_60 ?_
        refine k_icmp_ne 68 dX12_isCalled_61 (by decide) ⟨by decide, by decide⟩ ⟨by decide, by decide⟩ (fun _ => ?_) (fun h => False.elim (by revert h; decide))
        refine k_iload dX12_isCalled_68 rfl ?_
        refine k_iconst dX12_isCalled_70 ?_
        refine k_icmp_ne 79 dX12_isCalled_71 (by decide) ⟨by decide, by decide⟩ ⟨by decide, by decide⟩ (fun h => False.elim (by revert h; decide)) (fun _ => ?_)
        refine k_iload dX12_isCalled_74 rfl ?_
        refine k_goto 92 dX12_isCalled_76 (by decide) ?_
        refine k_icmp_ne 99 dX12_isCalled_92 (by decide) ⟨by omega, by omega⟩ ⟨by decide, by decide⟩ (fun h92 => ?_) (fun h92 => ?_)
        · skip
          refine k_iconst dX12_isCalled_99 ?_
          refine k_istore (L' := [_, _, _, _, _, _, _, _, _]) dX12_isCalled_100 (Nat.le_of_ble_eq_true rfl) rfl ?_
          refine k_iinc (L' := [_, _, _, _, _, _, _, _, _]) dX12_isCalled_102 rfl (Nat.le_of_ble_eq_true rfl) rfl ?_
          refine k_goto 26 dX12_isCalled_105 (by decide) ?_
          refine k_iload dX12_isCalled_26 rfl ?_
          refine k_iload_n dX12_isCalled_28 rfl ?_
          refine k_icmp_ge 108 dX12_isCalled_29 (by decide) ⟨by decide, by decide⟩ ⟨by decide, by decide⟩ (fun h => False.elim (by revert h; decide)) (fun _ => ?_)
          refine k_iload dX12_isCalled_32 rfl ?_
          refine k_if_eq 108 dX12_isCalled_34 (by decide) ⟨by decide, by decide⟩ (fun _ => ?_) (fun h => False.elim (by revert h; decide))
          refine k_iload dX12_isCalled_108 rfl ?_
          exact k_zret dX12_isCalled_110 rfl (Or.inl rfl) ⟨_, rfl, by first | exact bI_f (fun q => by have z := hw.mp q; omega) | exact bI_t (hw.mpr ⟨by omega, by omega, by omega⟩), rfl⟩
        · skip
          refine k_iconst dX12_isCalled_95 ?_
          refine k_goto 100 dX12_isCalled_96 (by decide) ?_
          refine k_istore (L' := [_, _, _, _, _, _, _, _, _]) dX12_isCalled_100 (Nat.le_of_ble_eq_true rfl) rfl ?_
          refine k_iinc (L' := [_, _, _, _, _, _, _, _, _]) dX12_isCalled_102 rfl (Nat.le_of_ble_eq_true rfl) rfl ?_
          refine k_goto 26 dX12_isCalled_105 (by decide) ?_
          refine k_iload dX12_isCalled_26 rfl ?_
          refine k_iload_n dX12_isCalled_28 rfl ?_
          refine k_icmp_ge 108 dX12_isCalled_29 (by decide) ⟨by decide, by decide⟩ ⟨by decide, by decide⟩ (fun h => False.elim (by revert h; decide)) (fun _ => ?_)
          refine k_iload dX12_isCalled_32 rfl ?_
          refine k_if_eq 108 dX12_isCalled_34 (by decide) ⟨by decide, by decide⟩ (fun h => False.elim (by revert h; decide)) (fun _ => ?_)
          refine k_aload_n dX12_isCalled_37 rfl ?_
          refine k_getR dX12_isCalled_38 f_X12_48 (Nat.le_of_ble_eq_true rfl) sh_o86 (fun _ => rfl) ?_
          refine k_aload_n dX12_isCalled_41 rfl ?_
          refine k_getI dX12_isCalled_42 f_X12_236 (Nat.le_of_ble_eq_true rfl) sh_o86 (fun _ => rfl) ?_
          refine k_iload dX12_isCalled_45 rfl ?_
          refine k_iadd dX12_isCalled_47 ?_
          refine k_iald ((tSk T L p) + 3) dX12_isCalled_48 (Nat.le_of_ble_eq_true rfl) sh_a98 (by decide) (by omega) (by omega) ?_
          rw [c3 hA.1 hA.2]
          refine k_iload dX12_isCalled_49 rfl ?_
          refine k_if_ne 58 dX12_isCalled_51 (by decide) ⟨by decide, by decide⟩ (fun _ => ?_) (fun h => False.elim (by revert h; decide))
          refine k_iload dX12_isCalled_58 rfl ?_
          refine k_iconst dX12_isCalled_60 ?_
          refine k_icmp_ne 68 dX12_isCalled_61 (by decide) ⟨by decide, by decide⟩ ⟨by decide, by decide⟩ (fun _ => ?_) (fun h => False.elim (by revert h; decide))
          refine k_iload dX12_isCalled_68 rfl ?_
          refine k_iconst dX12_isCalled_70 ?_
          refine k_icmp_ne 79 dX12_isCalled_71 (by decide) ⟨by decide, by decide⟩ ⟨by decide, by decide⟩ (fun _ => ?_) (fun h => False.elim (by revert h; decide))
          refine k_iload dX12_isCalled_79 rfl ?_
          refine k_iconst dX12_isCalled_81 ?_
          refine k_icmp_ne 90 dX12_isCalled_82 (by decide) ⟨by decide, by decide⟩ ⟨by decide, by decide⟩ (fun h => False.elim (by revert h; decide)) (fun _ => ?_)
          refine k_iload dX12_isCalled_85 rfl ?_
          refine k_goto 92 dX12_isCalled_87 (by decide) ?_
          refine k_icmp_ne 99 dX12_isCalled_92 (by decide) ⟨by omega, by omega⟩ ⟨by decide, by decide⟩ (fun h92 => ?_) (fun h92 => ?_)
          · skip
            refine k_iconst dX12_isCalled_99 ?_
            refine k_istore (L' := [_, _, _, _, _, _, _, _, _]) dX12_isCalled_100 (Nat.le_of_ble_eq_true rfl) rfl ?_
            refine k_iinc (L' := [_, _, _, _, _, _, _, _, _]) dX12_isCalled_102 rfl (Nat.le_of_ble_eq_true rfl) rfl ?_
            refine k_goto 26 dX12_isCalled_105 (by decide) ?_
            refine k_iload dX12_isCalled_26 rfl ?_
            refine k_iload_n dX12_isCalled_28 rfl ?_
            refine k_icmp_ge 108 dX12_isCalled_29 (by decide) ⟨by decide, by decide⟩ ⟨by decide, by decide⟩ (fun _ => ?_) (fun h => False.elim (by revert h; decide))
            refine k_iload dX12_isCalled_108 rfl ?_
            exact k_zret dX12_isCalled_110 rfl (Or.inl rfl) ⟨_, rfl, by first | exact bI_f (fun q => by have z := hw.mp q; omega) | exact bI_t (hw.mpr ⟨by omega, by omega, by omega⟩), rfl⟩
          · skip
            refine k_iconst dX12_isCalled_95 ?_
            refine k_goto 100 dX12_isCalled_96 (by decide) ?_
            refine k_istore (L' := [_, _, _, _, _, _, _, _, _]) dX12_isCalled_100 (Nat.le_of_ble_eq_true rfl) rfl ?_
            refine k_iinc (L' := [_, _, _, _, _, _, _, _, _]) dX12_isCalled_102 rfl (Nat.le_of_ble_eq_true rfl) rfl ?_
            refine k_goto 26 dX12_isCalled_105 (by decide) ?_
            refine k_iload dX12_isCalled_26 rfl ?_
            refine k_iload_n dX12_isCalled_28 rfl ?_
            refine k_icmp_ge 108 dX12_isCalled_29 (by decide) ⟨by decide, by decide⟩ ⟨by decide, by decide⟩ (fun _ => ?_) (fun h => False.elim (by revert h; decide))
            refine k_iload dX12_isCalled_108 rfl ?_
            exact k_zret dX12_isCalled_110 rfl (Or.inr rfl) ⟨_, rfl, by first | exact bI_f (fun q => by have z := hw.mp q; omega) | exact bI_t (hw.mpr ⟨by omega, by omega, by omega⟩), rfl⟩
  · skip
    refine k_aload_n dX12_isCalled_0 rfl ?_
    refine k_getI dX12_isCalled_1 f_X12_242 (Nat.le_of_ble_eq_true rfl) sh_o86 (fun _ => rfl) ?_
    refine k_iconst dX12_isCalled_4 ?_
    refine k_icmp_ne 20 dX12_isCalled_5 (by decide) ⟨by omega, by omega⟩ ⟨by decide, by decide⟩ (fun h5 => ?_) (fun h5 => absurd h5 (by omega))
    refine k_iconst dX12_isCalled_20 ?_
    refine k_istore (L' := [_, _, _, _, _, _, _, _, _]) dX12_isCalled_21 (Nat.le_of_ble_eq_true rfl) rfl ?_
    refine k_iconst dX12_isCalled_23 ?_
    refine k_istore (L' := [_, _, _, _, _, _, _, _, _]) dX12_isCalled_24 (Nat.le_of_ble_eq_true rfl) rfl ?_
    refine k_iload dX12_isCalled_26 rfl ?_
    refine k_iload_n dX12_isCalled_28 rfl ?_
    refine k_icmp_ge 108 dX12_isCalled_29 (by decide) ⟨by decide, by decide⟩ ⟨by decide, by decide⟩ (fun h => False.elim (by revert h; decide)) (fun _ => ?_)
    refine k_iload dX12_isCalled_32 rfl ?_
    refine k_if_eq 108 dX12_isCalled_34 (by decide) ⟨by decide, by decide⟩ (fun _ => ?_) (fun h => False.elim (by revert h; decide))
    refine k_iload dX12_isCalled_108 rfl ?_
    exact k_zret dX12_isCalled_110 rfl (Or.inl rfl) ⟨_, rfl, by first | exact bI_f (fun q => by have z := hw.mp q; omega) | exact bI_t (hw.mpr ⟨by omega, by omega, by omega⟩), rfl⟩
  · skip
    refine k_aload_n dX12_isCalled_0 rfl ?_
    refine k_getI dX12_isCalled_1 f_X12_242 (Nat.le_of_ble_eq_true rfl) sh_o86 (fun _ => rfl) ?_
    refine k_iconst dX12_isCalled_4 ?_
    refine k_icmp_ne 20 dX12_isCalled_5 (by decide) ⟨by omega, by omega⟩ ⟨by decide, by decide⟩ (fun h5 => absurd h5 (by omega)) (fun h5 => ?_)
    refine k_aload_n dX12_isCalled_8 rfl ?_
    refine k_getI dX12_isCalled_9 f_X12_239 (Nat.le_of_ble_eq_true rfl) sh_o86 (fun _ => rfl) ?_
    refine k_iload_n dX12_isCalled_12 rfl ?_
    refine k_icmp_ne 20 dX12_isCalled_13 (by decide) ⟨by omega, by omega⟩ ⟨by decide, by decide⟩ (fun h13 => ?_) (fun h13 => absurd h13 (by omega))
    refine k_iconst dX12_isCalled_20 ?_
    refine k_istore (L' := [_, _, _, _, _, _, _, _, _]) dX12_isCalled_21 (Nat.le_of_ble_eq_true rfl) rfl ?_
    refine k_iconst dX12_isCalled_23 ?_
    refine k_istore (L' := [_, _, _, _, _, _, _, _, _]) dX12_isCalled_24 (Nat.le_of_ble_eq_true rfl) rfl ?_
    refine k_iload dX12_isCalled_26 rfl ?_
    refine k_iload_n dX12_isCalled_28 rfl ?_
    refine k_icmp_ge 108 dX12_isCalled_29 (by decide) ⟨by decide, by decide⟩ ⟨by decide, by decide⟩ (fun h => False.elim (by revert h; decide)) (fun _ => ?_)
    refine k_iload dX12_isCalled_32 rfl ?_
    refine k_if_eq 108 dX12_isCalled_34 (by decide) ⟨by decide, by decide⟩ (fun _ => ?_) (fun h => False.elim (by revert h; decide))
    refine k_iload dX12_isCalled_108 rfl ?_
    exact k_zret dX12_isCalled_110 rfl (Or.inl rfl) ⟨_, rfl, by first | exact bI_f (fun q => by have z := hw.mp q; omega) | exact bI_t (hw.mpr ⟨by omega, by omega, by omega⟩), rfl⟩
theorem m_xIsWChild {T : Nat → Int} {L : Nat} {G : Mem} (hT : TB T) (hB : BT T L G) {p : Nat} (hp : p ≤ L) (hK : TKS T L p G)  : MP M_X12_isCalled [.ref 86, .int (iI 5), .int (iI 99), .int (iI 104), .int (iI 105), .int (iI 108), .int (iI 100)] G (vx (bI (wOk T L 1 p = true)) G) := by
  have hb := tLn_b (T := T) hp
  have hl2 := hB.2.1
  have k1 := hK.1
  have k2 := hK.2.1
  have k3 := hK.2.2.1
  have kb := tKd_b (T := T) (L := L) (s := (tSk T L p))
  have hw := wOk_iff (T := T) (L := L) (p := p) (u := 1) (m := 5) rfl (by decide)
  rw [wEq_5] at hw
  have c0 : tKd T L (tSk T L p) = 1 → tLn T L (tSk T L p) = 5 → G 98 ((tSk T L p) + 0) = T ((tSk T L p) + 0) := fun _ q => hB.2.2 _ (by omega)
  have t0 := hT ((tSk T L p) + 0)
  have c1 : tKd T L (tSk T L p) = 1 → tLn T L (tSk T L p) = 5 → G 98 ((tSk T L p) + 1) = T ((tSk T L p) + 1) := fun _ q => hB.2.2 _ (by omega)
  have t1 := hT ((tSk T L p) + 1)
  have c2 : tKd T L (tSk T L p) = 1 → tLn T L (tSk T L p) = 5 → G 98 ((tSk T L p) + 2) = T ((tSk T L p) + 2) := fun _ q => hB.2.2 _ (by omega)
  have t2 := hT ((tSk T L p) + 2)
  have c3 : tKd T L (tSk T L p) = 1 → tLn T L (tSk T L p) = 5 → G 98 ((tSk T L p) + 3) = T ((tSk T L p) + 3) := fun _ q => hB.2.2 _ (by omega)
  have t3 := hT ((tSk T L p) + 3)
  have c4 : tKd T L (tSk T L p) = 1 → tLn T L (tSk T L p) = 5 → G 98 ((tSk T L p) + 4) = T ((tSk T L p) + 4) := fun _ q => hB.2.2 _ (by omega)
  have t4 := hT ((tSk T L p) + 4)
  refine MP.of [some (.ref 86), some (.int (iI 5)), some (.int (iI 99)), some (.int (iI 104)), some (.int (iI 105)), some (.int (iI 108)), some (.int (iI 100)), none, none] (plainFor_of_name pn_X12) (Nat.le_of_ble_eq_true rfl) rfl ?_
  rcases (show (tKd T L (tSk T L p) = 1 ∧ tLn T L (tSk T L p) = 5) ∨ ¬ tKd T L (tSk T L p) = 1 ∨ (tKd T L (tSk T L p) = 1 ∧ ¬ tLn T L (tSk T L p) = 5) by omega) with hA | hA | hA
  · skip
    refine k_aload_n dX12_isCalled_0 rfl ?_
    refine k_getI dX12_isCalled_1 f_X12_242 (Nat.le_of_ble_eq_true rfl) sh_o86 (fun _ => rfl) ?_
    refine k_iconst dX12_isCalled_4 ?_
    refine k_icmp_ne 20 dX12_isCalled_5 (by decide) ⟨by omega, by omega⟩ ⟨by decide, by decide⟩ (fun h5 => absurd h5 (by omega)) (fun h5 => ?_)
    refine k_aload_n dX12_isCalled_8 rfl ?_
    refine k_getI dX12_isCalled_9 f_X12_239 (Nat.le_of_ble_eq_true rfl) sh_o86 (fun _ => rfl) ?_
    refine k_iload_n dX12_isCalled_12 rfl ?_
    refine k_icmp_ne 20 dX12_isCalled_13 (by decide) ⟨by omega, by omega⟩ ⟨by decide, by decide⟩ (fun h13 => absurd h13 (by omega)) (fun h13 => ?_)
    refine k_iconst dX12_isCalled_16 ?_
    refine k_goto 21 dX12_isCalled_17 (by decide) ?_
    refine k_istore (L' := [_, _, _, _, _, _, _, _, _]) dX12_isCalled_21 (Nat.le_of_ble_eq_true rfl) rfl ?_
    refine k_iconst dX12_isCalled_23 ?_
    refine k_istore (L' := [_, _, _, _, _, _, _, _, _]) dX12_isCalled_24 (Nat.le_of_ble_eq_true rfl) rfl ?_
    refine k_iload dX12_isCalled_26 rfl ?_
    refine k_iload_n dX12_isCalled_28 rfl ?_
    refine k_icmp_ge 108 dX12_isCalled_29 (by decide) ⟨by decide, by decide⟩ ⟨by decide, by decide⟩ (fun h => False.elim (by revert h; decide)) (fun _ => ?_)
    refine k_iload dX12_isCalled_32 rfl ?_
    refine k_if_eq 108 dX12_isCalled_34 (by decide) ⟨by decide, by decide⟩ (fun h => False.elim (by revert h; decide)) (fun _ => ?_)
    refine k_aload_n dX12_isCalled_37 rfl ?_
    refine k_getR dX12_isCalled_38 f_X12_48 (Nat.le_of_ble_eq_true rfl) sh_o86 (fun _ => rfl) ?_
    refine k_aload_n dX12_isCalled_41 rfl ?_
    refine k_getI dX12_isCalled_42 f_X12_236 (Nat.le_of_ble_eq_true rfl) sh_o86 (fun _ => rfl) ?_
    refine k_iload dX12_isCalled_45 rfl ?_
    refine k_iadd dX12_isCalled_47 ?_
    refine k_iald ((tSk T L p) + 0) dX12_isCalled_48 (Nat.le_of_ble_eq_true rfl) sh_a98 (by decide) (by omega) (by omega) ?_
    rw [c0 hA.1 hA.2]
    refine k_iload dX12_isCalled_49 rfl ?_
    refine k_if_ne 58 dX12_isCalled_51 (by decide) ⟨by decide, by decide⟩ (fun h => False.elim (by revert h; decide)) (fun _ => ?_)
    refine k_iload_n dX12_isCalled_54 rfl ?_
    refine k_goto 92 dX12_isCalled_55 (by decide) ?_
    refine k_icmp_ne 99 dX12_isCalled_92 (by decide) ⟨by omega, by omega⟩ ⟨by decide, by decide⟩ (fun h92 => ?_) (fun h92 => ?_)
    · skip
      refine k_iconst dX12_isCalled_99 ?_
      refine k_istore (L' := [_, _, _, _, _, _, _, _, _]) dX12_isCalled_100 (Nat.le_of_ble_eq_true rfl) rfl ?_
      refine k_iinc (L' := [_, _, _, _, _, _, _, _, _]) dX12_isCalled_102 rfl (Nat.le_of_ble_eq_true rfl) rfl ?_
      refine k_goto 26 dX12_isCalled_105 (by decide) ?_
      refine k_iload dX12_isCalled_26 rfl ?_
      refine k_iload_n dX12_isCalled_28 rfl ?_
      refine k_icmp_ge 108 dX12_isCalled_29 (by decide) ⟨by decide, by decide⟩ ⟨by decide, by decide⟩ (fun h => False.elim (by revert h; decide)) (fun _ => ?_)
      refine k_iload dX12_isCalled_32 rfl ?_
      refine k_if_eq 108 dX12_isCalled_34 (by decide) ⟨by decide, by decide⟩ (fun _ => ?_) (fun h => False.elim (by revert h; decide))
      refine k_iload dX12_isCalled_108 rfl ?_
      exact k_zret dX12_isCalled_110 rfl (Or.inl rfl) ⟨_, rfl, by first | exact bI_f (fun q => by have z := hw.mp q; omega) | exact bI_t (hw.mpr ⟨by omega, by omega, by omega⟩), rfl⟩
    · skip
      refine k_iconst dX12_isCalled_95 ?_
      refine k_goto 100 dX12_isCalled_96 (by decide) ?_
      refine k_istore (L' := [_, _, _, _, _, _, _, _, _]) dX12_isCalled_100 (Nat.le_of_ble_eq_true rfl) rfl ?_
      refine k_iinc (L' := [_, _, _, _, _, _, _, _, _]) dX12_isCalled_102 rfl (Nat.le_of_ble_eq_true rfl) rfl ?_
      refine k_goto 26 dX12_isCalled_105 (by decide) ?_
      refine k_iload dX12_isCalled_26 rfl ?_
      refine k_iload_n dX12_isCalled_28 rfl ?_
      refine k_icmp_ge 108 dX12_isCalled_29 (by decide) ⟨by decide, by decide⟩ ⟨by decide, by decide⟩ (fun h => False.elim (by revert h; decide)) (fun _ => ?_)
      refine k_iload dX12_isCalled_32 rfl ?_
      refine k_if_eq 108 dX12_isCalled_34 (by decide) ⟨by decide, by decide⟩ (fun h => False.elim (by revert h; decide)) (fun _ => ?_)
      refine k_aload_n dX12_isCalled_37 rfl ?_
      refine k_getR dX12_isCalled_38 f_X12_48 (Nat.le_of_ble_eq_true rfl) sh_o86 (fun _ => rfl) ?_
      refine k_aload_n dX12_isCalled_41 rfl ?_
      refine k_getI dX12_isCalled_42 f_X12_236 (Nat.le_of_ble_eq_true rfl) sh_o86 (fun _ => rfl) ?_
      refine k_iload dX12_isCalled_45 rfl ?_
      refine k_iadd dX12_isCalled_47 ?_
      refine k_iald ((tSk T L p) + 1) dX12_isCalled_48 (Nat.le_of_ble_eq_true rfl) sh_a98 (by decide) (by omega) (by omega) ?_
      rw [c1 hA.1 hA.2]
      refine k_iload dX12_isCalled_49 rfl ?_
      refine k_if_ne 58 dX12_isCalled_51 (by decide) ⟨by decide, by decide⟩ (fun _ => ?_) (fun h => False.elim (by revert h; decide))
      refine k_iload dX12_isCalled_58 rfl ?_
      refine k_iconst dX12_isCalled_60 ?_
      refine k_icmp_ne 68 dX12_isCalled_61 (by decide) ⟨by decide, by decide⟩ ⟨by decide, by decide⟩ (fun h => False.elim (by revert h; decide)) (fun _ => ?_)
      refine k_iload_n dX12_isCalled_64 rfl ?_
      refine k_goto 92 dX12_isCalled_65 (by decide) ?_
      refine k_icmp_ne 99 dX12_isCalled_92 (by decide) ⟨by omega, by omega⟩ ⟨by decide, by decide⟩ (fun h92 => ?_) (fun h92 => ?_)
      · skip
        refine k_iconst dX12_isCalled_99 ?_
        refine k_istore (L' := [_, _, _, _, _, _, _, _, _]) dX12_isCalled_100 (Nat.le_of_ble_eq_true rfl) rfl ?_
        refine k_iinc (L' := [_, _, _, _, _, _, _, _, _]) dX12_isCalled_102 rfl (Nat.le_of_ble_eq_true rfl) rfl ?_
        refine k_goto 26 dX12_isCalled_105 (by decide) ?_
        refine k_iload dX12_isCalled_26 rfl ?_
        refine k_iload_n dX12_isCalled_28 rfl ?_
        refine k_icmp_ge 108 dX12_isCalled_29 (by decide) ⟨by decide, by decide⟩ ⟨by decide, by decide⟩ (fun h => False.elim (by revert h; decide)) (fun _ => ?_)
        refine k_iload dX12_isCalled_32 rfl ?_
        refine k_if_eq 108 dX12_isCalled_34 (by decide) ⟨by decide, by decide⟩ (fun _ => ?_) (fun h => False.elim (by revert h; decide))
        refine k_iload dX12_isCalled_108 rfl ?_
        exact k_zret dX12_isCalled_110 rfl (Or.inl rfl) ⟨_, rfl, by first | exact bI_f (fun q => by have z := hw.mp q; omega) | exact bI_t (hw.mpr ⟨by omega, by omega, by omega⟩), rfl⟩
      · skip
        refine k_iconst dX12_isCalled_95 ?_
        refine k_goto 100 dX12_isCalled_96 (by decide) ?_
        refine k_istore (L' := [_, _, _, _, _, _, _, _, _]) dX12_isCalled_100 (Nat.le_of_ble_eq_true rfl) rfl ?_
        refine k_iinc (L' := [_, _, _, _, _, _, _, _, _]) dX12_isCalled_102 rfl (Nat.le_of_ble_eq_true rfl) rfl ?_
        refine k_goto 26 dX12_isCalled_105 (by decide) ?_
        refine k_iload dX12_isCalled_26 rfl ?_
        refine k_iload_n dX12_isCalled_28 rfl ?_
        refine k_icmp_ge 108 dX12_isCalled_29 (by decide) ⟨by decide, by decide⟩ ⟨by decide, by decide⟩ (fun h => False.elim (by revert h; decide)) (fun _ => ?_)
        refine k_iload dX12_isCalled_32 rfl ?_
        refine k_if_eq 108 dX12_isCalled_34 (by decide) ⟨by decide, by decide⟩ (fun h => False.elim (by revert h; decide)) (fun _ => ?_)
        refine k_aload_n dX12_isCalled_37 rfl ?_
        refine k_getR dX12_isCalled_38 f_X12_48 (Nat.le_of_ble_eq_true rfl) sh_o86 (fun _ => rfl) ?_
        refine k_aload_n dX12_isCalled_41 rfl ?_
        refine k_getI dX12_isCalled_42 f_X12_236 (Nat.le_of_ble_eq_true rfl) sh_o86 (fun _ => rfl) ?_
        refine k_iload dX12_isCalled_45 rfl ?_
        refine k_iadd dX12_isCalled_47 ?_
        refine k_iald ((tSk T L p) + 2) dX12_isCalled_48 (Nat.le_of_ble_eq_true rfl) sh_a98 (by decide) (by omega) (by omega) ?_
        rw [c2 hA.1 hA.2]
        refine k_iload dX12_isCalled_49 rfl ?_
        refine k_if_ne 58 dX12_isCalled_51 (by decide) ⟨by decide, by decide⟩ (fun _ => ?_) (fun h => False.elim (by revert h; decide))
        refine k_iload dX12_isCalled_58 rfl ?_
        refine k_iconst dX12_isCalled_60 ?_
        refine k_icmp_ne 68 dX12_isCalled_61 (by decide) ⟨by decide, by decide⟩ ⟨by decide, by decide⟩ (fun _ => ?_) (fun h => False.elim (by revert h; decide))
        refine k_iload dX12_isCalled_68 rfl ?_
        refine k_iconst dX12_isCalled_70 ?_
        refine k_icmp_ne 79 dX12_isCalled_71 (by decide) ⟨by decide, by decide⟩ ⟨by decide, by decide⟩ (fun h => False.elim (by revert h; decide)) (fun _ => ?_)
        refine k_iload dX12_isCalled_74 rfl ?_
        refine k_goto 92 dX12_isCalled_76 (by decide) ?_
        refine k_icmp_ne 99 dX12_isCalled_92 (by decide) ⟨by omega, by omega⟩ ⟨by decide, by decide⟩ (fun h92 => ?_) (fun h92 => ?_)
        · skip
          refine k_iconst dX12_isCalled_99 ?_
          refine k_istore (L' := [_, _, _, _, _, _, _, _, _]) dX12_isCalled_100 (Nat.le_of_ble_eq_true rfl) rfl ?_
          refine k_iinc (L' := [_, _, _, _, _, _, _, _, _]) dX12_isCalled_102 rfl (Nat.le_of_ble_eq_true rfl) rfl ?_
          refine k_goto 26 dX12_isCalled_105 (by decide) ?_
          refine k_iload dX12_isCalled_26 rfl ?_
          refine k_iload_n dX12_isCalled_28 rfl ?_
          refine k_icmp_ge 108 dX12_isCalled_29 (by decide) ⟨by decide, by decide⟩ ⟨by decide, by decide⟩ (fun h => False.elim (by revert h; decide)) (fun _ => ?_)
          refine k_iload dX12_isCalled_32 rfl ?_
          refine k_if_eq 108 dX12_isCalled_34 (by decide) ⟨by decide, by decide⟩ (fun _ => ?_) (fun h => False.elim (by revert h; decide))
          refine k_iload dX12_isCalled_108 rfl ?_
          exact k_zret dX12_isCalled_110 rfl (Or.inl rfl) ⟨_, rfl, by first | exact bI_f (fun q => by have z := hw.mp q; omega) | exact bI_t (hw.mpr ⟨by omega, by omega, by omega⟩), rfl⟩
        · skip
          refine k_iconst dX12_isCalled_95 ?_
          refine k_goto 100 dX12_isCalled_96 (by decide) ?_
          refine k_istore (L' := [_, _, _, _, _, _, _, _, _]) dX12_isCalled_100 (Nat.le_of_ble_eq_true rfl) rfl ?_
          refine k_iinc (L' := [_, _, _, _, _, _, _, _, _]) dX12_isCalled_102 rfl (Nat.le_of_ble_eq_true rfl) rfl ?_
          refine k_goto 26 dX12_isCalled_105 (by decide) ?_
          refine k_iload dX12_isCalled_26 rfl ?_
          refine k_iload_n dX12_isCalled_28 rfl ?_
          refine k_icmp_ge 108 dX12_isCalled_29 (by decide) ⟨by decide, by decide⟩ ⟨by decide, by decide⟩ (fun h => False.elim (by revert h; decide)) (fun _ => ?_)
          refine k_iload dX12_isCalled_32 rfl ?_
          refine k_if_eq 108 dX12_isCalled_34 (by decide) ⟨by decide, by decide⟩ (fun h => False.elim (by revert h; decide)) (fun _ => ?_)
          refine k_aload_n dX12_isCalled_37 rfl ?_
          refine k_getR dX12_isCalled_38 f_X12_48 (Nat.le_of_ble_eq_true rfl) sh_o86 (fun _ => rfl) ?_
          refine k_aload_n dX12_isCalled_41 rfl ?_
          refine k_getI dX12_isCalled_42 f_X12_236 (Nat.le_of_ble_eq_true rfl) sh_o86 (fun _ => rfl) ?_
          refine k_iload dX12_isCalled_45 rfl ?_
          refine k_iadd dX12_isCalled_47 ?_
          refine k_iald ((tSk T L p) + 3) dX12_isCalled_48 (Nat.le_of_ble_eq_true rfl) sh_a98 (by decide) (by omega) (by omega) ?_
          rw [c3 hA.1 hA.2]
          refine k_iload dX12_isCalled_49 rfl ?_
          refine k_if_ne 58 dX12_isCalled_51 (by decide) ⟨by decide, by decide⟩ (fun _ => ?_) (fun h => False.elim (by revert h; decide))
          refine k_iload dX12_isCalled_58 rfl ?_
          refine k_iconst dX12_isCalled_60 ?_
          refine k_icmp_ne 68 dX12_isCalled_61 (by decide) ⟨by decide, by decide⟩ ⟨by decide, by decide⟩ (fun _ => ?_) (fun h => False.elim (by revert h; decide))
          refine k_iload dX12_isCalled_68 rfl ?_
          refine k_iconst dX12_isCalled_70 ?_
          refine k_icmp_ne 79 dX12_isCalled_71 (by decide) ⟨by decide, by decide⟩ ⟨by decide, by decide⟩ (fun _ => ?_) (fun h => False.elim (by revert h; decide))
          refine k_iload dX12_isCalled_79 rfl ?_
          refine k_iconst dX12_isCalled_81 ?_
          refine k_icmp_ne 90 dX12_isCalled_82 (by decide) ⟨by decide, by decide⟩ ⟨by decide, by decide⟩ (fun h => False.elim (by revert h; decide)) (fun _ => ?_)
          refine k_iload dX12_isCalled_85 rfl ?_
          refine k_goto 92 dX12_isCalled_87 (by decide) ?_
          refine k_icmp_ne 99 dX12_isCalled_92 (by decide) ⟨by omega, by omega⟩ ⟨by decide, by decide⟩ (fun h92 => ?_) (fun h92 => ?_)
          · skip
            refine k_iconst dX12_isCalled_99 ?_
            refine k_istore (L' := [_, _, _, _, _, _, _, _, _]) dX12_isCalled_100 (Nat.le_of_ble_eq_true rfl) rfl ?_
            refine k_iinc (L' := [_, _, _, _, _, _, _, _, _]) dX12_isCalled_102 rfl (Nat.le_of_ble_eq_true rfl) rfl ?_
            refine k_goto 26 dX12_isCalled_105 (by decide) ?_
            refine k_iload dX12_isCalled_26 rfl ?_
            refine k_iload_n dX12_isCalled_28 rfl ?_
            refine k_icmp_ge 108 dX12_isCalled_29 (by decide) ⟨by decide, by decide⟩ ⟨by decide, by decide⟩ (fun h => False.elim (by revert h; decide)) (fun _ => ?_)
            refine k_iload dX12_isCalled_32 rfl ?_
            refine k_if_eq 108 dX12_isCalled_34 (by decide) ⟨by decide, by decide⟩ (fun _ => ?_) (fun h => False.elim (by revert h; decide))
            refine k_iload dX12_isCalled_108 rfl ?_
            exact k_zret dX12_isCalled_110 rfl (Or.inl rfl) ⟨_, rfl, by first | exact bI_f (fun q => by have z := hw.mp q; omega) | exact bI_t (hw.mpr ⟨by omega, by omega, by omega⟩), rfl⟩
          · skip
            refine k_iconst dX12_isCalled_95 ?_
            refine k_goto 100 dX12_isCalled_96 (by decide) ?_
            refine k_istore (L' := [_, _, _, _, _, _, _, _, _]) dX12_isCalled_100 (Nat.le_of_ble_eq_true rfl) rfl ?_
            refine k_iinc (L' := [_, _, _, _, _, _, _, _, _]) dX12_isCalled_102 rfl (Nat.le_of_ble_eq_true rfl) rfl ?_
            refine k_goto 26 dX12_isCalled_105 (by decide) ?_
            refine k_iload dX12_isCalled_26 rfl ?_
            refine k_iload_n dX12_isCalled_28 rfl ?_
            refine k_icmp_ge 108 dX12_isCalled_29 (by decide) ⟨by decide, by decide⟩ ⟨by decide, by decide⟩ (fun h => False.elim (by revert h; decide)) (fun _ => ?_)
            refine k_iload dX12_isCalled_32 rfl ?_
            refine k_if_eq 108 dX12_isCalled_34 (by decide) ⟨by decide, by decide⟩ (fun h => False.elim (by revert h; decide)) (fun _ => ?_)
            refine k_aload_n dX12_isCalled_37 rfl ?_
            refine k_getR dX12_isCalled_38 f_X12_48 (Nat.le_of_ble_eq_true rfl) sh_o86 (fun _ => rfl) ?_
            refine k_aload_n dX12_isCalled_41 rfl ?_
            refine k_getI dX12_isCalled_42 f_X12_236 (Nat.le_of_ble_eq_true rfl) sh_o86 (fun _ => rfl) ?_
            refine k_iload dX12_isCalled_45 rfl ?_
            refine k_iadd dX12_isCalled_47 ?_
            refine k_iald ((tSk T L p) + 4) dX12_isCalled_48 (Nat.le_of_ble_eq_true rfl) sh_a98 (by decide) (by omega) (by omega) ?_
            rw [c4 hA.1 hA.2]
            refine k_iload dX12_isCalled_49 rfl ?_
            refine k_if_ne 58 dX12_isCalled_51 (by decide) ⟨by decide, by decide⟩ (fun _ => ?_) (fun h => False.elim (by revert h; decide))
            refine k_iload dX12_isCalled_58 rfl ?_
            refine k_iconst dX12_isCalled_60 ?_
            refine k_icmp_ne 68 dX12_isCalled_61 (by decide) ⟨by decide, by decide⟩ ⟨by decide, by decide⟩ (fun _ => ?_) (fun h => False.elim (by revert h; decide))
            refine k_iload dX12_isCalled_68 rfl ?_
            refine k_iconst dX12_isCalled_70 ?_
            refine k_icmp_ne 79 dX12_isCalled_71 (by decide) ⟨by decide, by decide⟩ ⟨by decide, by decide⟩ (fun _ => ?_) (fun h => False.elim (by revert h; decide))
            refine k_iload dX12_isCalled_79 rfl ?_
            refine k_iconst dX12_isCalled_81 ?_
            refine k_icmp_ne 90 dX12_isCalled_82 (by decide) ⟨by decide, by decide⟩ ⟨by decide, by decide⟩ (fun _ => ?_) (fun h => False.elim (by revert h; decide))
            refine k_iload dX12_isCalled_90 rfl ?_
            refine k_icmp_ne 99 dX12_isCalled_92 (by decide) ⟨by omega, by omega⟩ ⟨by decide, by decide⟩ (fun h92 => ?_) (fun h92 => ?_)
            · skip
              refine k_iconst dX12_isCalled_99 ?_
              refine k_istore (L' := [_, _, _, _, _, _, _, _, _]) dX12_isCalled_100 (Nat.le_of_ble_eq_true rfl) rfl ?_
              refine k_iinc (L' := [_, _, _, _, _, _, _, _, _]) dX12_isCalled_102 rfl (Nat.le_of_ble_eq_true rfl) rfl ?_
              refine k_goto 26 dX12_isCalled_105 (by decide) ?_
              refine k_iload dX12_isCalled_26 rfl ?_
              refine k_iload_n dX12_isCalled_28 rfl ?_
              refine k_icmp_ge 108 dX12_isCalled_29 (by decide) ⟨by decide, by decide⟩ ⟨by decide, by decide⟩ (fun _ => ?_) (fun h => False.elim (by revert h; decide))
              refine k_iload dX12_isCalled_108 rfl ?_
              exact k_zret dX12_isCalled_110 rfl (Or.inl rfl) ⟨_, rfl, by first | exact bI_f (fun q => by have z := hw.mp q; omega) | exact bI_t (hw.mpr ⟨by omega, by omega, by omega⟩), rfl⟩
            · skip
              refine k_iconst dX12_isCalled_95 ?_
              refine k_goto 100 dX12_isCalled_96 (by decide) ?_
              refine k_istore (L' := [_, _, _, _, _, _, _, _, _]) dX12_isCalled_100 (Nat.le_of_ble_eq_true rfl) rfl ?_
              refine k_iinc (L' := [_, _, _, _, _, _, _, _, _]) dX12_isCalled_102 rfl (Nat.le_of_ble_eq_true rfl) rfl ?_
              refine k_goto 26 dX12_isCalled_105 (by decide) ?_
              refine k_iload dX12_isCalled_26 rfl ?_
              refine k_iload_n dX12_isCalled_28 rfl ?_
              refine k_icmp_ge 108 dX12_isCalled_29 (by decide) ⟨by decide, by decide⟩ ⟨by decide, by decide⟩ (fun _ => ?_) (fun h => False.elim (by revert h; decide))
              refine k_iload dX12_isCalled_108 rfl ?_
              exact k_zret dX12_isCalled_110 rfl (Or.inr rfl) ⟨_, rfl, by first | exact bI_f (fun q => by have z := hw.mp q; omega) | exact bI_t (hw.mpr ⟨by omega, by omega, by omega⟩), rfl⟩
  · skip
    refine k_aload_n dX12_isCalled_0 rfl ?_
    refine k_getI dX12_isCalled_1 f_X12_242 (Nat.le_of_ble_eq_true rfl) sh_o86 (fun _ => rfl) ?_
    refine k_iconst dX12_isCalled_4 ?_
    refine k_icmp_ne 20 dX12_isCalled_5 (by decide) ⟨by omega, by omega⟩ ⟨by decide, by decide⟩ (fun h5 => ?_) (fun h5 => absurd h5 (by omega))
    refine k_iconst dX12_isCalled_20 ?_
    refine k_istore (L' := [_, _, _, _, _, _, _, _, _]) dX12_isCalled_21 (Nat.le_of_ble_eq_true rfl) rfl ?_
    refine k_iconst dX12_isCalled_23 ?_
    refine k_istore (L' := [_, _, _, _, _, _, _, _, _]) dX12_isCalled_24 (Nat.le_of_ble_eq_true rfl) rfl ?_
    refine k_iload dX12_isCalled_26 rfl ?_
    refine k_iload_n dX12_isCalled_28 rfl ?_
    refine k_icmp_ge 108 dX12_isCalled_29 (by decide) ⟨by decide, by decide⟩ ⟨by decide, by decide⟩ (fun h => False.elim (by revert h; decide)) (fun _ => ?_)
    refine k_iload dX12_isCalled_32 rfl ?_
    refine k_if_eq 108 dX12_isCalled_34 (by decide) ⟨by decide, by decide⟩ (fun _ => ?_) (fun h => False.elim (by revert h; decide))
    refine k_iload dX12_isCalled_108 rfl ?_
    exact k_zret dX12_isCalled_110 rfl (Or.inl rfl) ⟨_, rfl, by first | exact bI_f (fun q => by have z := hw.mp q; omega) | exact bI_t (hw.mpr ⟨by omega, by omega, by omega⟩), rfl⟩
  · skip
    refine k_aload_n dX12_isCalled_0 rfl ?_
    refine k_getI dX12_isCalled_1 f_X12_242 (Nat.le_of_ble_eq_true rfl) sh_o86 (fun _ => rfl) ?_
    refine k_iconst dX12_isCalled_4 ?_
    refine k_icmp_ne 20 dX12_isCalled_5 (by decide) ⟨by omega, by omega⟩ ⟨by decide, by decide⟩ (fun h5 => absurd h5 (by omega)) (fun h5 => ?_)
    refine k_aload_n dX12_isCalled_8 rfl ?_
    refine k_getI dX12_isCalled_9 f_X12_239 (Nat.le_of_ble_eq_true rfl) sh_o86 (fun _ => rfl) ?_
    refine k_iload_n dX12_isCalled_12 rfl ?_
    refine k_icmp_ne 20 dX12_isCalled_13 (by decide) ⟨by omega, by omega⟩ ⟨by decide, by decide⟩ (fun h13 => ?_) (fun h13 => absurd h13 (by omega))
    refine k_iconst dX12_isCalled_20 ?_
    refine k_istore (L' := [_, _, _, _, _, _, _, _, _]) dX12_isCalled_21 (Nat.le_of_ble_eq_true rfl) rfl ?_
    refine k_iconst dX12_isCalled_23 ?_
    refine k_istore (L' := [_, _, _, _, _, _, _, _, _]) dX12_isCalled_24 (Nat.le_of_ble_eq_true rfl) rfl ?_
    refine k_iload dX12_isCalled_26 rfl ?_
    refine k_iload_n dX12_isCalled_28 rfl ?_
    refine k_icmp_ge 108 dX12_isCalled_29 (by decide) ⟨by decide, by decide⟩ ⟨by decide, by decide⟩ (fun h => False.elim (by revert h; decide)) (fun _ => ?_)
    refine k_iload dX12_isCalled_32 rfl ?_
    refine k_if_eq 108 dX12_isCalled_34 (by decide) ⟨by decide, by decide⟩ (fun _ => ?_) (fun h => False.elim (by revert h; decide))
    refine k_iload dX12_isCalled_108 rfl ?_
    exact k_zret dX12_isCalled_110 rfl (Or.inl rfl) ⟨_, rfl, by first | exact bI_f (fun q => by have z := hw.mp q; omega) | exact bI_t (hw.mpr ⟨by omega, by omega, by omega⟩), rfl⟩
/-- the token, the values and the road that is told may have changed -/
def TW (G g : Mem) : Prop := ∀ a b, ¬ (a = 86 ∧ 16 ≤ b ∧ b ≤ 19) → a ≠ 99 → a ≠ 100 → g a b = G a b
theorem TW.rf {G : Mem} : TW G G := fun _ _ _ _ _ => rfl
theorem TF.tw {G g : Mem} (h : TF G g) : TW G g := fun a b x _ _ => h a b x
theorem TW.tr {G g k : Mem} (h1 : TW G g) (h2 : TW g k) : TW G k := fun a b x y z => (h2 a b x y z).trans (h1 a b x y z)
theorem TW.sc {G g : Mem} (h : TW G g) : SC G g := fun a b x y => h a b (by omega) (by omega) (by omega)
theorem BT.tw {T : Nat → Int} {L : Nat} {G g : Mem} (h : BT T L G) (k : TW G g) : BT T L g := h.sc k.sc
/-- only the token and one value have changed -/
def TV (j : Nat) (G g : Mem) : Prop := ∀ a b, ¬ (a = 86 ∧ 16 ≤ b ∧ b ≤ 19) → ¬ (a = 100 ∧ b = j) → g a b = G a b
theorem TV.tw {j : Nat} {G g : Mem} (h : TV j G g) : TW G g := fun a b x _ z => h a b x (by omega)
def tkP (T : Nat → Int) (L : Nat) (lo hi : Int) (p k : Nat) (G : Mem) : Int → Mem → Prop := fun v g => (nVal T L lo hi p = -1 ∧ 0 = v ∧ G = g) ∨ (0 ≤ nVal T L lo hi p ∧ 1 = v ∧ TV k G g ∧ g 100 k = nVal T L lo hi p ∧ TKS T L (nTo T L lo hi p) g)
theorem m_xTakes {T : Nat → Int} {L : Nat} {G : Mem} (hT : TB T) (hB : BT T L G) {p : Nat} (hp : p ≤ L) (hK : TKS T L p G) {k : Nat} (hk : k < 5) {lo hi : Int} (hlo : 0 ≤ lo ∧ lo ≤ 100) (hhi : 0 ≤ hi ∧ hi ≤ 100) : MP M_X12_takes [.ref 86, .int (iI (k : Int)), .int (iI lo), .int (iI hi)] G (vi (tkP T L lo hi p k G)) := by
  have k3 := hK.2.2.1
  have kb := tKd_b (T := T) (L := L) (s := (tSk T L p))
  have hv := nVal_k (T := T) (L := L) (p := p) (hi := hi) hlo.1
  have hr : tKd T L (tSk T L p) = 2 → 0 ≤ G 86 19 ∧ G 86 19 ≤ 99 := fun q => by
    rw [hK.2.2.2 q]
    have h2 := tKd_2.mp q
    have h3 := tEn_p (T := T) h2.1 h2.2.1
    exact q_num_b _ (by omega) (fun j hj => tEn_in (L := L) (by omega))
  have he : tKd T L (tSk T L p) = 2 → tLn T L (tSk T L p) = tEn T L 48 57 (tSk T L p) - (tSk T L p) ∧ (tSk T L p) + (tEn T L 48 57 (tSk T L p) - (tSk T L p)) = tEn T L 48 57 (tSk T L p) := fun q => by
    have h2 := tKd_2.mp q
    have h3 := tEn_p (T := T) h2.1 h2.2.1
    unfold tLn
    rw [if_neg (by omega), if_neg (by omega), if_pos h2.2.1]
    omega
  refine MP.of [some (.ref 86), some (.int (iI (k : Int))), some (.int (iI lo)), some (.int (iI hi))] (plainFor_of_name pn_X12) (Nat.le_of_ble_eq_true rfl) rfl ?_
  refine k_aload_n dX12_takes_0 rfl ?_
  refine k_getI dX12_takes_1 f_X12_242 (Nat.le_of_ble_eq_true rfl) sh_o86 (fun _ => rfl) ?_
  refine k_iconst dX12_takes_4 ?_
  refine k_icmp_ne 23 dX12_takes_5 (by decide) ⟨by omega, by omega⟩ ⟨by decide, by decide⟩ (fun h5 => ?_) (fun h5 => ?_)
  · skip
    refine k_iconst dX12_takes_23 ?_
    exact k_zret dX12_takes_24 rfl (Or.inl rfl) ⟨_, rfl, by first | exact Or.inl ⟨by rw [hv]; exact if_neg (fun q => by omega), rfl, rfl⟩ | exact Or.inl ⟨by rw [hv]; exact if_neg (fun q => h20 q.2), rfl, rfl⟩ | (rw [if_pos ⟨q2, h20⟩] at hv; exact Or.inr ⟨by omega, rfl, fun a b x y => by rw [hg a b x, ug_ne (by omega)], by rw [hg 100 k (by omega), ug_at, hv], by rw [(he q2).1, (he q2).2] at hKg; rw [nTo_2 (by omega)]; exact hKg⟩)⟩
  · skip
    have q2 : tKd T L (tSk T L p) = 2 := by omega
    have hr2 := hr q2
    have h19 := hK.2.2.2 q2
    rw [← h19] at hv
    refine k_aload_n dX12_takes_8 rfl ?_
    refine k_getI dX12_takes_9 f_X12_245 (Nat.le_of_ble_eq_true rfl) sh_o86 (fun _ => rfl) ?_
    refine k_i2l dX12_takes_12 ⟨by omega, by omega⟩ ?_
    refine k_iload_n dX12_takes_13 rfl ?_
    refine k_i2l dX12_takes_14 ⟨by omega, by omega⟩ ?_
    refine k_iload_n dX12_takes_15 rfl ?_
    refine k_i2l dX12_takes_16 ⟨by omega, by omega⟩ ?_
    refine k_callSi [.long (lI _), .long (lI _), .long (lI _)] dX12_takes_17 s_X12_takes_65 rfl (m_xIn (by first | assumption | exact ⟨by omega, by omega⟩) (by first | assumption | exact ⟨by omega, by omega⟩) (by first | assumption | exact ⟨by omega, by omega⟩)) rfl (Nat.le_of_ble_eq_true rfl) ?_
    rintro _ _ ⟨rfl, rfl⟩
    refine k_ifb_ne 25 dX12_takes_20 (by decide) (fun h20 => ?_) (fun h20 => ?_)
    · skip
      refine k_aload_n dX12_takes_25 rfl ?_
      refine k_getR dX12_takes_26 f_X12_54 (Nat.le_of_ble_eq_true rfl) sh_o86 (fun _ => rfl) ?_
      refine k_iload_n dX12_takes_29 rfl ?_
      refine k_aload_n dX12_takes_30 rfl ?_
      refine k_getI dX12_takes_31 f_X12_245 (Nat.le_of_ble_eq_true rfl) sh_o86 (fun _ => rfl) ?_
      refine k_iast k dX12_takes_34 (Nat.le_of_ble_eq_true rfl) sh_a100 (by decide) (by omega) (by omega) ?_
      refine k_aload_n dX12_takes_35 rfl ?_
      refine k_callVv [] dX12_takes_36 s_X12_takes_257 rfl (m_xGoBehind hT (hB.of (ug_nc (by decide)) (fun _ => ug_nc (by decide))) hp (hK.of (fun j _ _ => ug_nc (by decide)))) rfl (Nat.le_of_ble_eq_true rfl) sh_o86 ⟨_, rfl, rfl⟩ (Nat.le_of_ble_eq_true rfl) ?_
      rintro g ⟨hg, hKg⟩
      refine k_iconst dX12_takes_39 ?_
      exact k_zret dX12_takes_40 rfl (Or.inr rfl) ⟨_, rfl, by first | exact Or.inl ⟨by rw [hv]; exact if_neg (fun q => by omega), rfl, rfl⟩ | exact Or.inl ⟨by rw [hv]; exact if_neg (fun q => h20 q.2), rfl, rfl⟩ | (rw [if_pos ⟨q2, h20⟩] at hv; exact Or.inr ⟨by omega, rfl, fun a b x y => by rw [hg a b x, ug_ne (by omega)], by rw [hg 100 k (by omega), ug_at, hv], by rw [(he q2).1, (he q2).2] at hKg; rw [nTo_2 (by omega)]; exact hKg⟩)⟩
    · skip
      refine k_iconst dX12_takes_23 ?_
      exact k_zret dX12_takes_24 rfl (Or.inl rfl) ⟨_, rfl, by first | exact Or.inl ⟨by rw [hv]; exact if_neg (fun q => by omega), rfl, rfl⟩ | exact Or.inl ⟨by rw [hv]; exact if_neg (fun q => h20 q.2), rfl, rfl⟩ | (rw [if_pos ⟨q2, h20⟩] at hv; exact Or.inr ⟨by omega, rfl, fun a b x y => by rw [hg a b x, ug_ne (by omega)], by rw [hg 100 k (by omega), ug_at, hv], by rw [(he q2).1, (he q2).2] at hKg; rw [nTo_2 (by omega)]; exact hKg⟩)⟩
