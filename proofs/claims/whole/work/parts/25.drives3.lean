/-! ===== how many bits ===== -/
def q_pc (s : Nat) : Nat := s % 2 + s / 2 % 2 + s / 4 % 2 + s / 8 % 2 + s / 16 % 2 + s / 32 % 2
def bc_1 (x : Int32) : Int32 := x - ((x.toUInt32 >>> ((Int32.ofInt 1).toUInt32 &&& Int32.toUInt32 31)).toInt32 &&& 1431655765)
def bc_2 (x : Int32) : Int32 := (x &&& 858993459) + ((x.toUInt32 >>> ((Int32.ofInt 2).toUInt32 &&& Int32.toUInt32 31)).toInt32 &&& 858993459)
def bc_3 (x : Int32) : Int32 := (x + (x.toUInt32 >>> ((Int32.ofInt 4).toUInt32 &&& Int32.toUInt32 31)).toInt32) &&& 252645135
def bc_4 (x : Int32) : Int32 := x + (x.toUInt32 >>> ((8 : Int32).toUInt32 &&& Int32.toUInt32 31)).toInt32
def bc_5 (x : Int32) : Int32 := x + (x.toUInt32 >>> ((16 : Int32).toUInt32 &&& Int32.toUInt32 31)).toInt32
theorem bc_all : ∀ s : Nat, s < 64 → bc_5 (bc_4 (bc_3 (bc_2 (bc_1 (iI (s : Int)))))) &&& 63 = iI (q_pc s : Int) := by decide +kernel
theorem r_eqret {M : MI} {N pc : Nat} {S : St} {L : List (Option Value)} {x y : Int32} (hd : decode M.2.1 pc = .ok (.ireturn, 1)) (hr0 : M.2.2.2.1 = some .int) (e : x = y) : Rn M pc L [.int x] N S 0 0 (some (.int y)) N S := by
  subst e
  exact r_iret hd hr0 rfl (Nat.zero_le _) (Nat.zero_le _)
theorem m_bitCount {G : Mem} {s : Nat} (hs : s < 64) : MP M_J6_bitCount_0f7a4 [.int (iI (s : Int))] G (vx (q_pc s : Int) G) := by
  refine MP.of [some (.int (iI (s : Int)))] pf_J6_bitCount_0f7a4 (Nat.le_of_ble_eq_true rfl) rfl ?_
  refine ⟨_, G, ⟨_, rfl, rfl, rfl⟩, ?_⟩
  refine r_iload_n dJ6_bitCount_0f7a4_0 rfl ?_
  refine r_iload_n dJ6_bitCount_0f7a4_1 rfl ?_
  refine r_iconst dJ6_bitCount_0f7a4_2 ?_
  refine r_iushr dJ6_bitCount_0f7a4_3 ?_
  refine r_ldcw dJ6_bitCount_0f7a4_4 w_682 ?_
  refine r_iand dJ6_bitCount_0f7a4_7 ?_
  refine r_isub dJ6_bitCount_0f7a4_8 ?_
  refine r_istore_n (L' := [_]) dJ6_bitCount_0f7a4_9 rfl (Nat.le_of_ble_eq_true rfl) rfl ?_
  refine r_iload_n dJ6_bitCount_0f7a4_10 rfl ?_
  refine r_ldcw dJ6_bitCount_0f7a4_11 w_683 ?_
  refine r_iand dJ6_bitCount_0f7a4_14 ?_
  refine r_iload_n dJ6_bitCount_0f7a4_15 rfl ?_
  refine r_iconst dJ6_bitCount_0f7a4_16 ?_
  refine r_iushr dJ6_bitCount_0f7a4_17 ?_
  refine r_ldcw dJ6_bitCount_0f7a4_18 w_683 ?_
  refine r_iand dJ6_bitCount_0f7a4_21 ?_
  refine r_iadd dJ6_bitCount_0f7a4_22 ?_
  refine r_istore_n (L' := [_]) dJ6_bitCount_0f7a4_23 rfl (Nat.le_of_ble_eq_true rfl) rfl ?_
  refine r_iload_n dJ6_bitCount_0f7a4_24 rfl ?_
  refine r_iload_n dJ6_bitCount_0f7a4_25 rfl ?_
  refine r_iconst dJ6_bitCount_0f7a4_26 ?_
  refine r_iushr dJ6_bitCount_0f7a4_27 ?_
  refine r_iadd dJ6_bitCount_0f7a4_28 ?_
  refine r_ldcw dJ6_bitCount_0f7a4_29 w_684 ?_
  refine r_iand dJ6_bitCount_0f7a4_32 ?_
  refine r_istore_n (L' := [_]) dJ6_bitCount_0f7a4_33 rfl (Nat.le_of_ble_eq_true rfl) rfl ?_
  refine r_iload_n dJ6_bitCount_0f7a4_34 rfl ?_
  refine r_iload_n dJ6_bitCount_0f7a4_35 rfl ?_
  refine r_bipush (v := 8) dJ6_bitCount_0f7a4_36 (by decide) ?_
  refine r_iushr dJ6_bitCount_0f7a4_38 ?_
  refine r_iadd dJ6_bitCount_0f7a4_39 ?_
  refine r_istore_n (L' := [_]) dJ6_bitCount_0f7a4_40 rfl (Nat.le_of_ble_eq_true rfl) rfl ?_
  refine r_iload_n dJ6_bitCount_0f7a4_41 rfl ?_
  refine r_iload_n dJ6_bitCount_0f7a4_42 rfl ?_
  refine r_bipush (v := 16) dJ6_bitCount_0f7a4_43 (by decide) ?_
  refine r_iushr dJ6_bitCount_0f7a4_45 ?_
  refine r_iadd dJ6_bitCount_0f7a4_46 ?_
  refine r_istore_n (L' := [_]) dJ6_bitCount_0f7a4_47 rfl (Nat.le_of_ble_eq_true rfl) rfl ?_
  refine r_iload_n dJ6_bitCount_0f7a4_48 rfl ?_
  refine r_bipush (v := 63) dJ6_bitCount_0f7a4_49 (by decide) ?_
  refine r_iand dJ6_bitCount_0f7a4_51 ?_
  exact r_eqret dJ6_bitCount_0f7a4_52 rfl (bc_all s hs)
theorem q_pc_b (s : Nat) : q_pc s ≤ 6 := by unfold q_pc; omega
theorem and_lt {e s : Nat} (h : e < 64) : e &&& (63 ^^^ s) < 64 := Nat.lt_of_le_of_lt Nat.and_le_left h
/-- to bed: the best of the sets up to k, and the end by it -/
def vBed (V : Mem) (a h : Int) : Nat → Nat × Int
  | 0 => (0, vSoonest V (vAll V) a)
  | k + 1 => if (q_pc (k + 1) : Int) ≤ h ∧ (vSoonest V (vAll V &&& (63 ^^^ (k + 1))) a < (vBed V a h k).2 ∨ vSoonest V (vAll V &&& (63 ^^^ (k + 1))) a = (vBed V a h k).2 ∧ q_pc (k + 1) < q_pc (vBed V a h k).1) then (k + 1, vSoonest V (vAll V &&& (63 ^^^ (k + 1))) a) else vBed V a h k
theorem vBed_b {V : Mem} {a h : Int} (ha : 0 ≤ a ∧ a ≤ 60) : ∀ k, (vBed V a h k).1 ≤ k ∧ 0 ≤ (vBed V a h k).2 ∧ (vBed V a h k).2 ≤ 61
  | 0 => by
    have := vSoonest_b (V := V) (set := vAll V) ha
    unfold vBed
    exact ⟨Nat.le_refl _, this⟩
  | k + 1 => by
    have h1 := vBed_b (V := V) (h := h) ha k
    have h2 := vSoonest_b (V := V) (set := vAll V &&& (63 ^^^ (k + 1))) ha
    unfold vBed
    split
    · exact ⟨Nat.le_refl _, h2⟩
    · exact ⟨by omega, h1.2⟩
theorem lp_bestToBed {G : Mem} {r : Nat} (hr : Rd r) (hrl : r + 12 < 65) (hV : Vok (rv G r)) {a h : Int} (ha : 0 ≤ a ∧ a ≤ 60) (hh : 0 ≤ h ∧ h ≤ 6) : ∀ k : Nat, k ≤ vAll (rv G r) → ∀ (G1 : Mem) (j8 j9 : Option Value), LI 65 G G1 → RP M_X1_bestToBed 22 [some (.ref 64), some (.ref r), some (.int (iI a)), some (.int (iI h)), some (.int (iI (vAll (rv G r) : Int))), some (.int (iI (((vBed (rv G r) a h k).1 : Nat) : Int))), some (.int (iI (vBed (rv G r) a h k).2)), some (.int (iI ((k : Int) + 1))), j8, j9] [] G1 (vi fun v g => ((vBed (rv G r) a h (vAll (rv G r))).1 : Int) = v ∧ LI 65 G g) := by
  have hall := vAll_lt hV
  refine cnt (fun G1 j8 j9 hI => ?_) (fun k hk ih G1 j8 j9 hI => ?_)
  · skip
    refine k_iload dX1_bestToBed_22 rfl ?_
    refine k_iload dX1_bestToBed_24 rfl ?_
    refine k_icmp_gt 106 dX1_bestToBed_26 (by decide) ⟨by omega, by omega⟩ ⟨by omega, by omega⟩ (fun h26 => ?_) (fun h26 => absurd h26 (by omega))
    refine k_iload dX1_bestToBed_106 rfl ?_
    exact k_iret dX1_bestToBed_108 rfl ⟨_, rfl, rfl, hI⟩
  · skip
    have bb := vBed_b (V := rv G r) (a := a) (h := h) ha k
    have e := vBed.eq_2 (rv G r) a h k
    have p1 := q_pc_b (k + 1)
    have p2 := q_pc_b (vBed (rv G r) a h k).1
    have bs := vSoonest_b (V := rv G r) (set := vAll (rv G r) &&& (63 ^^^ (k + 1))) ha
    refine k_iload dX1_bestToBed_22 rfl ?_
    refine k_iload dX1_bestToBed_24 rfl ?_
    refine k_icmp_gt 106 dX1_bestToBed_26 (by decide) ⟨by omega, by omega⟩ ⟨by omega, by omega⟩ (fun h26 => absurd h26 (by omega)) (fun h26 => ?_)
    refine k_iload dX1_bestToBed_29 rfl ?_
    refine k_callSi [.int (iI _)] dX1_bestToBed_31 s_X1_bestToBed_61 rfl (m_bitCount (s := k + 1) (by omega)) rfl (Nat.le_of_ble_eq_true rfl) ?_
    rintro _ _ ⟨rfl, rfl⟩
    refine k_iload_n dX1_bestToBed_34 rfl ?_
    refine k_icmp_gt 100 dX1_bestToBed_35 (by decide) ⟨by omega, by omega⟩ ⟨by omega, by omega⟩ (fun h35 => ?_) (fun h35 => ?_)
    · skip
      refine k_iinc (L' := [_, _, _, _, _, _, _, _, _, _]) dX1_bestToBed_100 rfl (Nat.le_of_ble_eq_true rfl) rfl ?_
      refine k_goto 22 dX1_bestToBed_103 (by decide) ?_
      first | (rw [if_neg (fun z => by omega)] at e; rw [e] at ih; first | exact ih _ _ _ hI2 | exact ih _ _ _ hI) | (rw [if_pos ⟨by omega, by omega⟩] at e; rw [e] at ih; first | exact ih _ _ _ hI2 | exact ih _ _ _ hI) | (exfalso; omega)
    · skip
      refine k_aload_n dX1_bestToBed_38 rfl ?_
      refine k_aload_n dX1_bestToBed_39 rfl ?_
      refine k_iload dX1_bestToBed_40 rfl ?_
      refine k_iload dX1_bestToBed_42 rfl ?_
      refine k_iconst dX1_bestToBed_44 ?_
      refine k_not (k + 1) dX1_bestToBed_45 rfl (by omega) ?_
      refine k_iandn (vAll (rv G r)) (k + 1) dX1_bestToBed_46 rfl rfl hall (by omega) ?_
      refine k_iload_n dX1_bestToBed_47 rfl ?_
      refine k_callVi [.ref _, .int (iI _), .int (iI _)] dX1_bestToBed_48 s_X1_bestToBed_58 rfl (m_soonestEnd hr hrl hV hI (and_lt hall) ha) rfl (Nat.le_of_ble_eq_true rfl) sh_o64 ⟨_, rfl, rfl⟩ (Nat.le_of_ble_eq_true rfl) ?_
      rintro _ G2 ⟨rfl, hI2⟩
      refine k_istore (L' := [_, _, _, _, _, _, _, _, _, _]) dX1_bestToBed_51 (Nat.le_of_ble_eq_true rfl) rfl ?_
      refine k_iload dX1_bestToBed_53 rfl ?_
      refine k_callSi [.int (iI _)] dX1_bestToBed_55 s_X1_bestToBed_61 rfl (m_bitCount (s := k + 1) (by omega)) rfl (Nat.le_of_ble_eq_true rfl) ?_
      rintro _ _ ⟨rfl, rfl⟩
      refine k_iload dX1_bestToBed_58 rfl ?_
      refine k_callSi [.int (iI _)] dX1_bestToBed_60 s_X1_bestToBed_61 rfl (m_bitCount (s := (vBed (rv G r) a h k).1) (by omega)) rfl (Nat.le_of_ble_eq_true rfl) ?_
      rintro _ _ ⟨rfl, rfl⟩
      refine k_icmp_ge 70 dX1_bestToBed_63 (by decide) ⟨by omega, by omega⟩ ⟨by omega, by omega⟩ (fun h63 => ?_) (fun h63 => ?_)
      · skip
        refine k_iconst dX1_bestToBed_70 ?_
        refine k_istore (L' := [_, _, _, _, _, _, _, _, _, _]) dX1_bestToBed_71 (Nat.le_of_ble_eq_true rfl) rfl ?_
        refine k_iload dX1_bestToBed_73 rfl ?_
        refine k_iload dX1_bestToBed_75 rfl ?_
        refine k_icmp_lt 92 dX1_bestToBed_77 (by decide) ⟨by omega, by omega⟩ ⟨by omega, by omega⟩ (fun h77 => ?_) (fun h77 => ?_)
        · skip
          refine k_iload dX1_bestToBed_92 rfl ?_
          refine k_istore (L' := [_, _, _, _, _, _, _, _, _, _]) dX1_bestToBed_94 (Nat.le_of_ble_eq_true rfl) rfl ?_
          refine k_iload dX1_bestToBed_96 rfl ?_
          refine k_istore (L' := [_, _, _, _, _, _, _, _, _, _]) dX1_bestToBed_98 (Nat.le_of_ble_eq_true rfl) rfl ?_
          refine k_iinc (L' := [_, _, _, _, _, _, _, _, _, _]) dX1_bestToBed_100 rfl (Nat.le_of_ble_eq_true rfl) rfl ?_
          refine k_goto 22 dX1_bestToBed_103 (by decide) ?_
          first | (rw [if_neg (fun z => by omega)] at e; rw [e] at ih; first | exact ih _ _ _ hI2 | exact ih _ _ _ hI) | (rw [if_pos ⟨by omega, by omega⟩] at e; rw [e] at ih; first | exact ih _ _ _ hI2 | exact ih _ _ _ hI) | (exfalso; omega)
        · skip
          refine k_iload dX1_bestToBed_80 rfl ?_
          refine k_iload dX1_bestToBed_82 rfl ?_
          refine k_icmp_ne 100 dX1_bestToBed_84 (by decide) ⟨by omega, by omega⟩ ⟨by omega, by omega⟩ (fun h84 => ?_) (fun h84 => ?_)
          · skip
            refine k_iinc (L' := [_, _, _, _, _, _, _, _, _, _]) dX1_bestToBed_100 rfl (Nat.le_of_ble_eq_true rfl) rfl ?_
            refine k_goto 22 dX1_bestToBed_103 (by decide) ?_
            first | (rw [if_neg (fun z => by omega)] at e; rw [e] at ih; first | exact ih _ _ _ hI2 | exact ih _ _ _ hI) | (rw [if_pos ⟨by omega, by omega⟩] at e; rw [e] at ih; first | exact ih _ _ _ hI2 | exact ih _ _ _ hI) | (exfalso; omega)
          · skip
            refine k_iload dX1_bestToBed_87 rfl ?_
            refine k_if_eq 100 dX1_bestToBed_89 (by decide) ⟨by decide, by decide⟩ (fun h89 => ?_) (fun h89 => ?_)
            · skip
              refine k_iinc (L' := [_, _, _, _, _, _, _, _, _, _]) dX1_bestToBed_100 rfl (Nat.le_of_ble_eq_true rfl) rfl ?_
              refine k_goto 22 dX1_bestToBed_103 (by decide) ?_
              first | (rw [if_neg (fun z => by omega)] at e; rw [e] at ih; first | exact ih _ _ _ hI2 | exact ih _ _ _ hI) | (rw [if_pos ⟨by omega, by omega⟩] at e; rw [e] at ih; first | exact ih _ _ _ hI2 | exact ih _ _ _ hI) | (exfalso; omega)
            · skip
              refine k_iload dX1_bestToBed_92 rfl ?_
              refine k_istore (L' := [_, _, _, _, _, _, _, _, _, _]) dX1_bestToBed_94 (Nat.le_of_ble_eq_true rfl) rfl ?_
              refine k_iload dX1_bestToBed_96 rfl ?_
              refine k_istore (L' := [_, _, _, _, _, _, _, _, _, _]) dX1_bestToBed_98 (Nat.le_of_ble_eq_true rfl) rfl ?_
              refine k_iinc (L' := [_, _, _, _, _, _, _, _, _, _]) dX1_bestToBed_100 rfl (Nat.le_of_ble_eq_true rfl) rfl ?_
              refine k_goto 22 dX1_bestToBed_103 (by decide) ?_
              first | (rw [if_neg (fun z => by omega)] at e; rw [e] at ih; first | exact ih _ _ _ hI2 | exact ih _ _ _ hI) | (rw [if_pos ⟨by omega, by omega⟩] at e; rw [e] at ih; first | exact ih _ _ _ hI2 | exact ih _ _ _ hI) | (exfalso; omega)
      · skip
        refine k_iconst dX1_bestToBed_66 ?_
        refine k_goto 71 dX1_bestToBed_67 (by decide) ?_
        refine k_istore (L' := [_, _, _, _, _, _, _, _, _, _]) dX1_bestToBed_71 (Nat.le_of_ble_eq_true rfl) rfl ?_
        refine k_iload dX1_bestToBed_73 rfl ?_
        refine k_iload dX1_bestToBed_75 rfl ?_
        refine k_icmp_lt 92 dX1_bestToBed_77 (by decide) ⟨by omega, by omega⟩ ⟨by omega, by omega⟩ (fun h77 => ?_) (fun h77 => ?_)
        · skip
          refine k_iload dX1_bestToBed_92 rfl ?_
          refine k_istore (L' := [_, _, _, _, _, _, _, _, _, _]) dX1_bestToBed_94 (Nat.le_of_ble_eq_true rfl) rfl ?_
          refine k_iload dX1_bestToBed_96 rfl ?_
          refine k_istore (L' := [_, _, _, _, _, _, _, _, _, _]) dX1_bestToBed_98 (Nat.le_of_ble_eq_true rfl) rfl ?_
          refine k_iinc (L' := [_, _, _, _, _, _, _, _, _, _]) dX1_bestToBed_100 rfl (Nat.le_of_ble_eq_true rfl) rfl ?_
          refine k_goto 22 dX1_bestToBed_103 (by decide) ?_
          first | (rw [if_neg (fun z => by omega)] at e; rw [e] at ih; first | exact ih _ _ _ hI2 | exact ih _ _ _ hI) | (rw [if_pos ⟨by omega, by omega⟩] at e; rw [e] at ih; first | exact ih _ _ _ hI2 | exact ih _ _ _ hI) | (exfalso; omega)
        · skip
          refine k_iload dX1_bestToBed_80 rfl ?_
          refine k_iload dX1_bestToBed_82 rfl ?_
          refine k_icmp_ne 100 dX1_bestToBed_84 (by decide) ⟨by omega, by omega⟩ ⟨by omega, by omega⟩ (fun h84 => ?_) (fun h84 => ?_)
          · skip
            refine k_iinc (L' := [_, _, _, _, _, _, _, _, _, _]) dX1_bestToBed_100 rfl (Nat.le_of_ble_eq_true rfl) rfl ?_
            refine k_goto 22 dX1_bestToBed_103 (by decide) ?_
            first | (rw [if_neg (fun z => by omega)] at e; rw [e] at ih; first | exact ih _ _ _ hI2 | exact ih _ _ _ hI) | (rw [if_pos ⟨by omega, by omega⟩] at e; rw [e] at ih; first | exact ih _ _ _ hI2 | exact ih _ _ _ hI) | (exfalso; omega)
          · skip
            refine k_iload dX1_bestToBed_87 rfl ?_
            refine k_if_eq 100 dX1_bestToBed_89 (by decide) ⟨by decide, by decide⟩ (fun h89 => ?_) (fun h89 => ?_)
            · skip
              refine k_iinc (L' := [_, _, _, _, _, _, _, _, _, _]) dX1_bestToBed_100 rfl (Nat.le_of_ble_eq_true rfl) rfl ?_
              refine k_goto 22 dX1_bestToBed_103 (by decide) ?_
              first | (rw [if_neg (fun z => by omega)] at e; rw [e] at ih; first | exact ih _ _ _ hI2 | exact ih _ _ _ hI) | (rw [if_pos ⟨by omega, by omega⟩] at e; rw [e] at ih; first | exact ih _ _ _ hI2 | exact ih _ _ _ hI) | (exfalso; omega)
            · skip
              refine k_iload dX1_bestToBed_92 rfl ?_
              refine k_istore (L' := [_, _, _, _, _, _, _, _, _, _]) dX1_bestToBed_94 (Nat.le_of_ble_eq_true rfl) rfl ?_
              refine k_iload dX1_bestToBed_96 rfl ?_
              refine k_istore (L' := [_, _, _, _, _, _, _, _, _, _]) dX1_bestToBed_98 (Nat.le_of_ble_eq_true rfl) rfl ?_
              refine k_iinc (L' := [_, _, _, _, _, _, _, _, _, _]) dX1_bestToBed_100 rfl (Nat.le_of_ble_eq_true rfl) rfl ?_
              refine k_goto 22 dX1_bestToBed_103 (by decide) ?_
              first | (rw [if_neg (fun z => by omega)] at e; rw [e] at ih; first | exact ih _ _ _ hI2 | exact ih _ _ _ hI) | (rw [if_pos ⟨by omega, by omega⟩] at e; rw [e] at ih; first | exact ih _ _ _ hI2 | exact ih _ _ _ hI) | (exfalso; omega)
theorem m_bestToBed {G G1 : Mem} {r : Nat} (hr : Rd r) (hrl : r + 12 < 65) (hV : Vok (rv G r)) (hI : LI 65 G G1) {a h : Int} (ha : 0 ≤ a ∧ a ≤ 60) (hh : 0 ≤ h ∧ h ≤ 6) : MP M_X1_bestToBed [.ref 64, .ref r, .int (iI a), .int (iI h)] G1 (vi fun v g => ((vBed (rv G r) a h (vAll (rv G r))).1 : Int) = v ∧ LI 65 G g) := by
  refine MP.of [some (.ref 64), some (.ref r), some (.int (iI a)), some (.int (iI h)), none, none, none, none, none, none] (plainFor_of_name pn_X1) (Nat.le_of_ble_eq_true rfl) rfl ?_
  refine k_aload_n dX1_bestToBed_0 rfl ?_
  refine k_callVi [] dX1_bestToBed_1 s_X1_bestToBed_26 rfl (m_allL hr hrl hV hI) rfl (Rd.l0 hr) (Rd.o hr) ⟨_, rfl, rfl⟩ (Nat.le_of_ble_eq_true rfl) ?_
  rintro _ _ ⟨rfl, rfl⟩
  refine k_istore (L' := [_, _, _, _, _, _, _, _, _, _]) dX1_bestToBed_4 (Nat.le_of_ble_eq_true rfl) rfl ?_
  refine k_iconst dX1_bestToBed_6 ?_
  refine k_istore (L' := [_, _, _, _, _, _, _, _, _, _]) dX1_bestToBed_7 (Nat.le_of_ble_eq_true rfl) rfl ?_
  refine k_aload_n dX1_bestToBed_9 rfl ?_
  refine k_aload_n dX1_bestToBed_10 rfl ?_
  refine k_iload dX1_bestToBed_11 rfl ?_
  refine k_iload_n dX1_bestToBed_13 rfl ?_
  refine k_callVi [.ref _, .int (iI _), .int (iI _)] dX1_bestToBed_14 s_X1_bestToBed_58 rfl (m_soonestEnd hr hrl hV hI (vAll_lt hV) ha) rfl (Nat.le_of_ble_eq_true rfl) sh_o64 ⟨_, rfl, rfl⟩ (Nat.le_of_ble_eq_true rfl) ?_
  rintro _ G2 ⟨rfl, hI2⟩
  refine k_istore (L' := [_, _, _, _, _, _, _, _, _, _]) dX1_bestToBed_17 (Nat.le_of_ble_eq_true rfl) rfl ?_
  refine k_iconst dX1_bestToBed_19 ?_
  refine k_istore (L' := [_, _, _, _, _, _, _, _, _, _]) dX1_bestToBed_20 (Nat.le_of_ble_eq_true rfl) rfl ?_
  exact lp_bestToBed hr hrl hV ha hh 0 (by omega) _ _ _ hI2
