/-- the greatest that divides both, from d down; what is kept then -/
def q_fr (t b : Int) : Nat → Int × Int
  | 0 => (t, b)
  | d + 1 => if 1 < ((d + 1 : Nat) : Int) ∧ t % ((d + 1 : Nat) : Int) = 0 ∧ b % ((d + 1 : Nat) : Int) = 0 then (t / ((d + 1 : Nat) : Int), b / ((d + 1 : Nat) : Int)) else q_fr t b d
theorem q_fr1 {t b : Int} : ∀ d : Nat, d ≤ 1 → q_fr t b d = (t, b)
  | 0, _ => rfl
  | 1, _ => if_neg (fun q => absurd q.1 (by decide))
  | d + 2, h => absurd h (by omega)
theorem ug_fr {G : Mem} {t b x y : Int} : ug (ug (ug (ug G 0 10 t) 0 11 b) 0 10 x) 0 11 y = ug (ug G 0 10 x) 0 11 y := by
  funext i j
  by_cases e1 : i = 0 ∧ j = 11
  · obtain ⟨rfl, rfl⟩ := e1
    rw [ug_at, ug_at]
  · rw [ug_ne e1, ug_ne e1]
    by_cases e2 : i = 0 ∧ j = 10
    · obtain ⟨rfl, rfl⟩ := e2
      rw [ug_at, ug_at]
    · rw [ug_ne e2, ug_ne e1, ug_ne e2, ug_ne e2]
def mFr (G : Mem) (t b : Int) (d : Nat) : Mem := ug (ug G 0 10 (q_fr t b d).1) 0 11 (q_fr t b d).2
theorem lp_keepFraction {G : Mem} {t b : Int} (ht : 0 ≤ t ∧ t ≤ 5000) (hb : 0 ≤ b ∧ b ≤ 30) : ∀ d : Nat, d ≤ 30 → RP M_X11_keepFraction 12 [some (.ref 0), some (.int (iI t)), some (.int (iI b)), some (.int (iI (d : Int)))] [] (ug (ug G 0 10 t) 0 11 b) (vv (fun g => mFr G t b d = g)) := by
  intro d
  induction d with
  | zero =>
    intro hd
    refine k_iload_n dX11_keepFraction_12 rfl ?_
    refine k_iconst dX11_keepFraction_13 ?_
    refine k_icmp_le 50 dX11_keepFraction_14 (by decide) ⟨by omega, by omega⟩ ⟨by decide, by decide⟩ (fun h14 => ?_) (fun h14 => absurd h14 (by omega))
    exact k_ret dX11_keepFraction_50 rfl ⟨rfl, rfl⟩
  | succ d ih =>
    intro hd
    have e := q_fr.eq_2 t b d
    refine k_iload_n dX11_keepFraction_12 rfl ?_
    refine k_iconst dX11_keepFraction_13 ?_
    refine k_icmp_le 50 dX11_keepFraction_14 (by decide) ⟨by omega, by omega⟩ ⟨by decide, by decide⟩ (fun h14 => ?_) (fun h14 => ?_)
    · skip
      exact k_ret dX11_keepFraction_50 rfl ⟨rfl, by unfold mFr; rw [q_fr1 _ (by omega)]⟩
    · skip
      refine k_iload_n dX11_keepFraction_17 rfl ?_
      refine k_iload_n dX11_keepFraction_18 rfl ?_
      refine k_irem dX11_keepFraction_19 (by omega) (by omega) ?_
      have hm1 : 0 ≤ t % ((d + 1 : Nat) : Int) ∧ t % ((d + 1 : Nat) : Int) < ((d + 1 : Nat) : Int) := ⟨Int.emod_nonneg _ (by omega), Int.emod_lt_of_pos _ (by omega)⟩
      refine k_if_ne 44 dX11_keepFraction_20 (by decide) ⟨by omega, by omega⟩ (fun h20 => ?_) (fun h20 => ?_)
      · skip
        refine k_iinc (L' := [_, _, _, _]) dX11_keepFraction_44 rfl (Nat.le_of_ble_eq_true rfl) rfl ?_
        refine k_goto 12 dX11_keepFraction_47 (by decide) ?_
        have e3 : q_fr t b (d + 1) = q_fr t b d := by rw [e]; exact if_neg (fun q => by first | exact h26 q.2.2 | exact h20 q.2.1)
        rw [show mFr G t b (d + 1) = mFr G t b d from by unfold mFr; rw [e3]]
        rw [show ((d + 1 : Nat) : Int) + -1 = (d : Int) by omega]
        exact ih (by omega)
      · skip
        refine k_iload_n dX11_keepFraction_23 rfl ?_
        refine k_iload_n dX11_keepFraction_24 rfl ?_
        refine k_irem dX11_keepFraction_25 (by omega) (by omega) ?_
        have hm2 : 0 ≤ b % ((d + 1 : Nat) : Int) ∧ b % ((d + 1 : Nat) : Int) < ((d + 1 : Nat) : Int) := ⟨Int.emod_nonneg _ (by omega), Int.emod_lt_of_pos _ (by omega)⟩
        refine k_if_ne 44 dX11_keepFraction_26 (by decide) ⟨by omega, by omega⟩ (fun h26 => ?_) (fun h26 => ?_)
        · skip
          refine k_iinc (L' := [_, _, _, _]) dX11_keepFraction_44 rfl (Nat.le_of_ble_eq_true rfl) rfl ?_
          refine k_goto 12 dX11_keepFraction_47 (by decide) ?_
          have e3 : q_fr t b (d + 1) = q_fr t b d := by rw [e]; exact if_neg (fun q => by first | exact h26 q.2.2 | exact h20 q.2.1)
          rw [show mFr G t b (d + 1) = mFr G t b d from by unfold mFr; rw [e3]]
          rw [show ((d + 1 : Nat) : Int) + -1 = (d : Int) by omega]
          exact ih (by omega)
        · skip
          refine k_aload_n dX11_keepFraction_29 rfl ?_
          refine k_iload_n dX11_keepFraction_30 rfl ?_
          refine k_iload_n dX11_keepFraction_31 rfl ?_
          refine k_idiv dX11_keepFraction_32 (by omega) (by omega) ?_
          refine k_putI dX11_keepFraction_33 f_X11_233 (Nat.le_of_ble_eq_true rfl) sh_o0 (fun _ => (Nat.le_of_ble_eq_true rfl)) rfl (fun _ => rfl) ?_
          refine k_aload_n dX11_keepFraction_36 rfl ?_
          refine k_iload_n dX11_keepFraction_37 rfl ?_
          refine k_iload_n dX11_keepFraction_38 rfl ?_
          refine k_idiv dX11_keepFraction_39 (by omega) (by omega) ?_
          refine k_putI dX11_keepFraction_40 f_X11_53 (Nat.le_of_ble_eq_true rfl) sh_o0 (fun _ => (Nat.le_of_ble_eq_true rfl)) rfl (fun _ => rfl) ?_
          exact k_ret dX11_keepFraction_43 rfl ⟨rfl, by rw [ug_fr]; unfold mFr; rw [e, if_pos ⟨by omega, h20, h26⟩]⟩
theorem m_keepFraction {G : Mem} {t b : Int} (ht : 0 ≤ t ∧ t ≤ 5000) (hb : 0 ≤ b ∧ b ≤ 30) : MP M_X11_keepFraction [.ref 0, .int (iI t), .int (iI b)] G (vv (fun g => mFr G t b b.toNat = g)) := by
  refine MP.of [some (.ref 0), some (.int (iI t)), some (.int (iI b)), none] (plainFor_of_name pn_X11) (Nat.le_of_ble_eq_true rfl) rfl ?_
  refine k_aload_n dX11_keepFraction_0 rfl ?_
  refine k_iload_n dX11_keepFraction_1 rfl ?_
  refine k_putI dX11_keepFraction_2 f_X11_233 (Nat.le_of_ble_eq_true rfl) sh_o0 (fun _ => (Nat.le_of_ble_eq_true rfl)) rfl (fun _ => rfl) ?_
  refine k_aload_n dX11_keepFraction_5 rfl ?_
  refine k_iload_n dX11_keepFraction_6 rfl ?_
  refine k_putI dX11_keepFraction_7 f_X11_53 (Nat.le_of_ble_eq_true rfl) sh_o0 (fun _ => (Nat.le_of_ble_eq_true rfl)) rfl (fun _ => rfl) ?_
  refine k_iload_n dX11_keepFraction_10 rfl ?_
  refine k_istore_n (L' := [_, _, _, _]) dX11_keepFraction_11 (Nat.le_of_ble_eq_true rfl) rfl ?_
  have h := lp_keepFraction (G := G) ht hb b.toNat (by omega)
  rw [show ((b.toNat : Nat) : Int) = b by omega] at h
  exact h
theorem m_pDays {G : Mem} (hV : Vok (rv G 1)) (hq : q_ok (G (65 + 7)) (G (65 + 8))) {s n w : Int} (hs : R32 s) (hn : R32 n) (hw : R32 w) : MP M_X11_days [.ref 0, .int (iI s), .int (iI n), .int (iI w)] G (vi fun v g => if (0 ≤ s ∧ s ≤ 999999) ∧ (0 ≤ n ∧ n ≤ 30) ∧ (0 ≤ w ∧ w ≤ 100) then (if n = 0 then (-3 = v ∧ rN G = g) else (1 = v ∧ ∃ g0, LI 65 G g0 ∧ mFr g0 (vDays (rv G 1) w s n.toNat).2 n n.toNat = g)) else (-2 = v ∧ rB G = g)) := by
  have hI : LI 65 G G := LI.rf hq
  have h2 : 0 ≤ G 1 2 ∧ G 1 2 ≤ 6 := hV.2.2.1
  refine MP.of [some (.ref 0), some (.int (iI s)), some (.int (iI n)), some (.int (iI w))] (plainFor_of_name pn_X11) (Nat.le_of_ble_eq_true rfl) rfl ?_
  refine k_iload_n dX11_days_0 rfl ?_
  refine k_iconst dX11_days_1 ?_
  refine k_ldc 999999 dX11_days_2 w_772 ?_
  refine k_callSi [.int (iI _), .int (iI _), .int (iI _)] dX11_days_4 s_X11_days_57 rfl (m_within (by first | assumption | exact ⟨by omega, by omega⟩) ⟨by omega, by omega⟩ ⟨by omega, by omega⟩) rfl (Nat.le_of_ble_eq_true rfl) ?_
  rintro _ _ ⟨rfl, rfl⟩
  refine k_ifb_eq 30 dX11_days_7 (by decide) (fun h7 => ?_) (fun h7 => ?_)
  · skip
    refine k_aload_n dX11_days_30 rfl ?_
    refine k_bipush dX11_days_31 (by decide) ?_
    refine k_callVi [.int (iI _)] dX11_days_33 s_X11_days_61 rfl m_refuseBad rfl (Nat.le_of_ble_eq_true rfl) sh_o0 ⟨_, rfl, rfl⟩ (Nat.le_of_ble_eq_true rfl) ?_
    rintro _ _ ⟨rfl, rfl⟩
    exact k_iret dX11_days_36 rfl ⟨_, rfl, by (try dsimp only); first | (exfalso; omega) | (rw [if_pos (by omega), if_pos (by omega)]; exact ⟨rfl, rfl⟩) | (rw [if_pos (by omega), if_neg (by omega)]; exact ⟨rfl, _, hI2, rfl⟩) | (rw [if_neg (by omega)]; exact ⟨rfl, rfl⟩)⟩
  · skip
    refine k_iload_n dX11_days_10 rfl ?_
    refine k_iconst dX11_days_11 ?_
    refine k_bipush dX11_days_12 (by decide) ?_
    refine k_callSi [.int (iI _), .int (iI _), .int (iI _)] dX11_days_14 s_X11_days_57 rfl (m_within (by first | assumption | exact ⟨by omega, by omega⟩) ⟨by omega, by omega⟩ ⟨by omega, by omega⟩) rfl (Nat.le_of_ble_eq_true rfl) ?_
    rintro _ _ ⟨rfl, rfl⟩
    refine k_ifb_eq 30 dX11_days_17 (by decide) (fun h17 => ?_) (fun h17 => ?_)
    · skip
      refine k_aload_n dX11_days_30 rfl ?_
      refine k_bipush dX11_days_31 (by decide) ?_
      refine k_callVi [.int (iI _)] dX11_days_33 s_X11_days_61 rfl m_refuseBad rfl (Nat.le_of_ble_eq_true rfl) sh_o0 ⟨_, rfl, rfl⟩ (Nat.le_of_ble_eq_true rfl) ?_
      rintro _ _ ⟨rfl, rfl⟩
      exact k_iret dX11_days_36 rfl ⟨_, rfl, by (try dsimp only); first | (exfalso; omega) | (rw [if_pos (by omega), if_pos (by omega)]; exact ⟨rfl, rfl⟩) | (rw [if_pos (by omega), if_neg (by omega)]; exact ⟨rfl, _, hI2, rfl⟩) | (rw [if_neg (by omega)]; exact ⟨rfl, rfl⟩)⟩
    · skip
      refine k_iload_n dX11_days_20 rfl ?_
      refine k_iconst dX11_days_21 ?_
      refine k_bipush dX11_days_22 (by decide) ?_
      refine k_callSi [.int (iI _), .int (iI _), .int (iI _)] dX11_days_24 s_X11_days_57 rfl (m_within (by first | assumption | exact ⟨by omega, by omega⟩) ⟨by omega, by omega⟩ ⟨by omega, by omega⟩) rfl (Nat.le_of_ble_eq_true rfl) ?_
      rintro _ _ ⟨rfl, rfl⟩
      refine k_ifb_ne 37 dX11_days_27 (by decide) (fun h27 => ?_) (fun h27 => ?_)
      · skip
        refine k_iload_n dX11_days_37 rfl ?_
        refine k_if_ne 46 dX11_days_38 (by decide) ⟨by omega, by omega⟩ (fun h38 => ?_) (fun h38 => ?_)
        · skip
          refine k_aload_n dX11_days_46 rfl ?_
          refine k_aload_n dX11_days_47 rfl ?_
          refine k_getR dX11_days_48 f_X11_42 (Nat.le_of_ble_eq_true rfl) sh_o0 (fun _ => rfl) ?_
          refine k_aload_n dX11_days_51 rfl ?_
          refine k_getR dX11_days_52 f_X11_10 (Nat.le_of_ble_eq_true rfl) sh_o0 (fun _ => rfl) ?_
          refine k_iload_n dX11_days_55 rfl ?_
          refine k_iload_n dX11_days_56 rfl ?_
          refine k_iload_n dX11_days_57 rfl ?_
          refine k_callVi [.ref _, .int (iI _), .int (iI _), .int (iI _)] dX11_days_58 s_X11_days_226 rfl (m_minutesOfDays rd1 (by omega) hV hI ⟨by omega, by omega⟩ ⟨by omega, by omega⟩ ⟨by omega, by omega⟩) rfl (Nat.le_of_ble_eq_true rfl) sh_o64 ⟨_, rfl, rfl⟩ (Nat.le_of_ble_eq_true rfl) ?_
          rintro _ G2 ⟨rfl, hI2⟩
          have vd := (vDays_b hV (w := w) (x0 := s) ⟨by omega, by omega⟩ n.toNat).2
          refine k_iload_n dX11_days_61 rfl ?_
          refine k_callVv [.int (iI _), .int (iI _)] dX11_days_62 s_X11_days_230 rfl (m_keepFraction ⟨by omega, by omega⟩ ⟨by omega, by omega⟩) rfl (Nat.le_of_ble_eq_true rfl) sh_o0 ⟨_, rfl, rfl⟩ (Nat.le_of_ble_eq_true rfl) ?_
          rintro _ rfl
          refine k_iconst dX11_days_65 ?_
          exact k_iret dX11_days_66 rfl ⟨_, rfl, by (try dsimp only); first | (exfalso; omega) | (rw [if_pos (by omega), if_pos (by omega)]; exact ⟨rfl, rfl⟩) | (rw [if_pos (by omega), if_neg (by omega)]; exact ⟨rfl, _, hI2, rfl⟩) | (rw [if_neg (by omega)]; exact ⟨rfl, rfl⟩)⟩
        · skip
          refine k_aload_n dX11_days_41 rfl ?_
          refine k_callVi [] dX11_days_42 s_X11_days_107 rfl m_refuseNo rfl (Nat.le_of_ble_eq_true rfl) sh_o0 ⟨_, rfl, rfl⟩ (Nat.le_of_ble_eq_true rfl) ?_
          rintro _ _ ⟨rfl, rfl⟩
          exact k_iret dX11_days_45 rfl ⟨_, rfl, by (try dsimp only); first | (exfalso; omega) | (rw [if_pos (by omega), if_pos (by omega)]; exact ⟨rfl, rfl⟩) | (rw [if_pos (by omega), if_neg (by omega)]; exact ⟨rfl, _, hI2, rfl⟩) | (rw [if_neg (by omega)]; exact ⟨rfl, rfl⟩)⟩
      · skip
        refine k_aload_n dX11_days_30 rfl ?_
        refine k_bipush dX11_days_31 (by decide) ?_
        refine k_callVi [.int (iI _)] dX11_days_33 s_X11_days_61 rfl m_refuseBad rfl (Nat.le_of_ble_eq_true rfl) sh_o0 ⟨_, rfl, rfl⟩ (Nat.le_of_ble_eq_true rfl) ?_
        rintro _ _ ⟨rfl, rfl⟩
        exact k_iret dX11_days_36 rfl ⟨_, rfl, by (try dsimp only); first | (exfalso; omega) | (rw [if_pos (by omega), if_pos (by omega)]; exact ⟨rfl, rfl⟩) | (rw [if_pos (by omega), if_neg (by omega)]; exact ⟨rfl, _, hI2, rfl⟩) | (rw [if_neg (by omega)]; exact ⟨rfl, rfl⟩)⟩
