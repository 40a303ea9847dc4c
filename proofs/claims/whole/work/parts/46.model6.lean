/-! ===== the Model: what calls change ===== -/
theorem mem_c {G : Mem} {a y z : Nat} (h : y = z) : G a y = G a z := by rw [h]
def zb (G : Mem) (a k : Nat) : Mem := fun x y => if x = a ∧ y < k then 0 else G x y
theorem zb_0 {G : Mem} {a : Nat} : zb G a 0 = G := by
  funext x y
  exact if_neg (fun q => by omega)
theorem zb_s {G : Mem} {a k : Nat} : ug (zb G a k) a k 0 = zb G a (k + 1) := by
  funext x y
  unfold ug zb
  repeat' split
  all_goals first | rfl | (exfalso; omega)
def mBeg (G : Mem) (a : Nat) (s l : Int) : Mem := ug (ug (zb G a 74) a 1 s) a 2 l
def mAdd (G : Mem) (a : Nat) (k h c s b : Int) : Mem := ug (ug (ug (ug (ug (ug G a (6 + 5 * (G a 0).toNat) k) a (6 + 5 * (G a 0).toNat + 1) h) a (6 + 5 * (G a 0).toNat + 2) c) a (6 + 5 * (G a 0).toNat + 3) s) a (6 + 5 * (G a 0).toNat + 4) b) a 0 (G a 0 + 1)
def ks (G : Mem) (k : Nat) : Mem := fun x y => if x = 87 ∧ 74 ≤ y ∧ y < 74 + k then G 87 (y + 12) else G x y
theorem ks_0 {G : Mem} : ks G 0 = G := by
  funext x y
  exact if_neg (fun q => by omega)
theorem ks_s {G : Mem} {k : Nat} : ug (ks G k) 87 (74 + k) (ks G k 87 (86 + k)) = ks G (k + 1) := by
  funext x y
  unfold ug ks
  rw [if_neg (show ¬ (87 = 87 ∧ 74 ≤ 86 + k ∧ 86 + k < 74 + k) by omega)]
  repeat' split
  all_goals first | rfl | (exfalso; omega) | exact mem_c (by omega)
/-- a snapshot's first c children -/
def sn (G : Mem) (u c : Nat) : Mem := fun x y => if x = 87 ∧ 74 + 12 * u ≤ y ∧ y < 74 + 12 * u + 2 * c then G 87 (6 + 5 * ((y - (74 + 12 * u)) / 2) + (if (y - (74 + 12 * u)) % 2 = 0 then 2 else 4)) else G x y
theorem sn_0 {G : Mem} {u : Nat} : sn G u 0 = G := by
  funext x y
  exact if_neg (fun q => by omega)
theorem sn_lo {G : Mem} {u c y : Nat} (h : y < 74) : sn G u c 87 y = G 87 y := if_neg (fun q => by omega)
theorem sn_s {G : Mem} {u c : Nat} : ug (ug (sn G u c) 87 (74 + 12 * u + 2 * c) (G 87 (6 + 5 * c + 2))) 87 (74 + 12 * u + 2 * c + 1) (G 87 (6 + 5 * c + 4)) = sn G u (c + 1) := by
  funext x y
  unfold ug sn
  repeat' split
  all_goals first | rfl | (exfalso; omega) | exact mem_c (by omega)
def mKeep (G : Mem) : Mem := if G 87 5 = 8 then ug (sn (ug (ks G 84) 87 5 7) 7 6) 87 5 8 else ug (sn G (G 87 5).toNat 6) 87 5 (G 87 5 + 1)
/-- a snapshot's first c children are put back -/
def ud (G : Mem) (u c : Nat) : Mem := fun x y => if x = 87 ∧ 6 ≤ y ∧ (y - 6) / 5 < c ∧ ((y - 6) % 5 = 2 ∨ (y - 6) % 5 = 4) then G 87 (74 + 12 * u + 2 * ((y - 6) / 5) + (if (y - 6) % 5 = 2 then 0 else 1)) else G x y
theorem ud_0 {G : Mem} {u : Nat} : ud G u 0 = G := by
  funext x y
  exact if_neg (fun q => by omega)
theorem ud_hi {G : Mem} {u c y : Nat} (hc : c ≤ 6) (h : 36 ≤ y) : ud G u c 87 y = G 87 y := if_neg (fun q => by omega)
theorem ud_5 {G : Mem} {u c : Nat} : ud G u c 87 5 = G 87 5 := if_neg (fun q => by omega)
theorem ud_s {G : Mem} {u c : Nat} : ug (ug (ud G u c) 87 (6 + 5 * c + 2) (G 87 (74 + 12 * u + 2 * c))) 87 (6 + 5 * c + 4) (G 87 (74 + 12 * u + 2 * c + 1)) = ud G u (c + 1) := by
  funext x y
  unfold ug ud
  repeat' split
  all_goals first | rfl | (exfalso; omega) | exact mem_c (by omega)
def mUndo (G : Mem) : Mem := ud (ug G 87 5 (G 87 5 - 1)) (G 87 5 - 1).toNat 6
def ci (G : Mem) (i k : Nat) : Mem := fun x y => if x = 88 ∧ 170 * i ≤ y ∧ y < 170 * i + k then G 87 (y - 170 * i) else G x y
theorem ci_0 {G : Mem} {i : Nat} : ci G i 0 = G := by
  funext x y
  exact if_neg (fun q => by omega)
theorem ci_s {G : Mem} {i k : Nat} : ug (ci G i k) 88 (170 * i + k) (ci G i k 87 k) = ci G i (k + 1) := by
  funext x y
  unfold ug ci
  rw [if_neg (show ¬ (87 = 88 ∧ 170 * i ≤ k ∧ k < 170 * i + k) by omega)]
  repeat' split
  all_goals first | rfl | (exfalso; omega) | exact mem_c (by omega)
def cf (G : Mem) (i k : Nat) : Mem := fun x y => if x = 87 ∧ y < k then G 88 (170 * i + y) else G x y
theorem cf_0 {G : Mem} {i : Nat} : cf G i 0 = G := by
  funext x y
  exact if_neg (fun q => by omega)
theorem cf_s {G : Mem} {i k : Nat} : ug (cf G i k) 87 k (cf G i k 88 (170 * i + k)) = cf G i (k + 1) := by
  funext x y
  unfold ug cf
  rw [if_neg (show ¬ (88 = 87 ∧ 170 * i + k < k) by omega)]
  repeat' split
  all_goals first | rfl | (exfalso; omega) | exact mem_c (by omega)
theorem lp_xBegin87 {G : Mem} {s l : Int} : ∀ k : Nat, k ≤ 74 → RP M_X12_begin 2 [some (.ref 87), some (.int (iI s)), some (.int (iI l)), some (.int (iI (k : Int)))] [] (zb G 87 k) (vv fun g => mBeg G 87 s l = g) := by
  refine cnt ?_ (fun k hk ih => ?_)
  · skip
    refine k_iload_n dX12_begin_2 rfl ?_
    refine k_bipush dX12_begin_3 (by decide) ?_
    refine k_icmp_ge 18 dX12_begin_5 (by decide) ⟨by omega, by omega⟩ ⟨by decide, by decide⟩ (fun h5 => ?_) (fun h5 => absurd h5 (by omega))
    refine k_aload_n dX12_begin_18 rfl ?_
    refine k_iconst dX12_begin_19 ?_
    refine k_iload_n dX12_begin_20 rfl ?_
    refine k_iast (1) dX12_begin_21 (Nat.le_of_ble_eq_true rfl) sh_a87 (by decide) (by omega) (by omega) ?_
    refine k_aload_n dX12_begin_22 rfl ?_
    refine k_iconst dX12_begin_23 ?_
    refine k_iload_n dX12_begin_24 rfl ?_
    refine k_iast (2) dX12_begin_25 (Nat.le_of_ble_eq_true rfl) sh_a87 (by decide) (by omega) (by omega) ?_
    exact k_ret dX12_begin_26 rfl ⟨rfl, rfl⟩
  · skip
    refine k_iload_n dX12_begin_2 rfl ?_
    refine k_bipush dX12_begin_3 (by decide) ?_
    refine k_icmp_ge 18 dX12_begin_5 (by decide) ⟨by omega, by omega⟩ ⟨by decide, by decide⟩ (fun h5 => absurd h5 (by omega)) (fun h5 => ?_)
    refine k_aload_n dX12_begin_8 rfl ?_
    refine k_iload_n dX12_begin_9 rfl ?_
    refine k_iconst dX12_begin_10 ?_
    refine k_iast k dX12_begin_11 (Nat.le_of_ble_eq_true rfl) sh_a87 (by decide) (by omega) (by omega) ?_
    refine k_iinc (L' := [_, _, _, _]) dX12_begin_12 rfl (Nat.le_of_ble_eq_true rfl) rfl ?_
    refine k_goto 2 dX12_begin_15 (by decide) ?_
    rw [zb_s]
    exact ih
theorem m_xBegin87 {G : Mem} {s l : Int} : MP M_X12_begin [.ref 87, .int (iI s), .int (iI l)] G (vv fun g => mBeg G 87 s l = g) := by
  refine MP.of [some (.ref 87), some (.int (iI s)), some (.int (iI l)), none] (plainFor_of_name pn_X12) (Nat.le_of_ble_eq_true rfl) rfl ?_
  refine k_iconst dX12_begin_0 ?_
  refine k_istore_n (L' := [_, _, _, _]) dX12_begin_1 (Nat.le_of_ble_eq_true rfl) rfl ?_
  have h := lp_xBegin87 (G := G) (s := s) (l := l) 0 (by omega)
  rw [zb_0] at h
  exact h
theorem m_xLayChild87 {G : Mem} (hn : 0 ≤ G 87 0 ∧ G 87 0 < 6) {k h c s b : Int} : MP M_X12_layChild [.ref 87, .int (iI k), .int (iI h), .int (iI c), .int (iI s), .int (iI b)] G (vv fun g => mAdd G 87 k h c s b = g) := by
  refine MP.of [some (.ref 87), some (.int (iI k)), some (.int (iI h)), some (.int (iI c)), some (.int (iI s)), some (.int (iI b)), none] (plainFor_of_name pn_X12) (Nat.le_of_ble_eq_true rfl) rfl ?_
  refine k_bipush dX12_layChild_0 (by decide) ?_
  refine k_iconst dX12_layChild_2 ?_
  refine k_aload_n dX12_layChild_3 rfl ?_
  refine k_iconst dX12_layChild_4 ?_
  refine k_iald (0) dX12_layChild_5 (Nat.le_of_ble_eq_true rfl) sh_a87 (by decide) (by omega) (by omega) ?_
  refine k_imul dX12_layChild_6 ?_
  refine k_iadd dX12_layChild_7 ?_
  refine k_istore (L' := [_, _, _, _, _, _, _]) dX12_layChild_8 (Nat.le_of_ble_eq_true rfl) rfl ?_
  refine k_aload_n dX12_layChild_10 rfl ?_
  refine k_iload dX12_layChild_11 rfl ?_
  refine k_iconst dX12_layChild_13 ?_
  refine k_iadd dX12_layChild_14 ?_
  refine k_iload_n dX12_layChild_15 rfl ?_
  refine k_iast (6 + 5 * (G 87 0).toNat) dX12_layChild_16 (Nat.le_of_ble_eq_true rfl) sh_a87 (by decide) (by omega) (by omega) ?_
  refine k_aload_n dX12_layChild_17 rfl ?_
  refine k_iload dX12_layChild_18 rfl ?_
  refine k_iconst dX12_layChild_20 ?_
  refine k_iadd dX12_layChild_21 ?_
  refine k_iload_n dX12_layChild_22 rfl ?_
  refine k_iast (6 + 5 * (G 87 0).toNat + 1) dX12_layChild_23 (Nat.le_of_ble_eq_true rfl) sh_a87 (by decide) (by omega) (by omega) ?_
  refine k_aload_n dX12_layChild_24 rfl ?_
  refine k_iload dX12_layChild_25 rfl ?_
  refine k_iconst dX12_layChild_27 ?_
  refine k_iadd dX12_layChild_28 ?_
  refine k_iload_n dX12_layChild_29 rfl ?_
  refine k_iast (6 + 5 * (G 87 0).toNat + 2) dX12_layChild_30 (Nat.le_of_ble_eq_true rfl) sh_a87 (by decide) (by omega) (by omega) ?_
  refine k_aload_n dX12_layChild_31 rfl ?_
  refine k_iload dX12_layChild_32 rfl ?_
  refine k_iconst dX12_layChild_34 ?_
  refine k_iadd dX12_layChild_35 ?_
  refine k_iload dX12_layChild_36 rfl ?_
  refine k_iast (6 + 5 * (G 87 0).toNat + 3) dX12_layChild_38 (Nat.le_of_ble_eq_true rfl) sh_a87 (by decide) (by omega) (by omega) ?_
  refine k_aload_n dX12_layChild_39 rfl ?_
  refine k_iload dX12_layChild_40 rfl ?_
  refine k_iconst dX12_layChild_42 ?_
  refine k_iadd dX12_layChild_43 ?_
  refine k_iload dX12_layChild_44 rfl ?_
  refine k_iast (6 + 5 * (G 87 0).toNat + 4) dX12_layChild_46 (Nat.le_of_ble_eq_true rfl) sh_a87 (by decide) (by omega) (by omega) ?_
  refine k_aload_n dX12_layChild_47 rfl ?_
  refine k_iconst dX12_layChild_48 ?_
  refine k_dup2 dX12_layChild_49 rfl rfl ?_
  refine k_iald (0) dX12_layChild_50 (Nat.le_of_ble_eq_true rfl) sh_a87 (by decide) (by omega) (by omega) ?_
  simp (disch := omega) only [ug_at, ug_nc, ug_np]
  refine k_iconst dX12_layChild_51 ?_
  refine k_iadd dX12_layChild_52 ?_
  refine k_iast (0) dX12_layChild_53 (Nat.le_of_ble_eq_true rfl) sh_a87 (by decide) (by omega) (by omega) ?_
  exact k_ret dX12_layChild_54 rfl ⟨rfl, rfl⟩
theorem lp_xBegin99 {G : Mem} {s l : Int} : ∀ k : Nat, k ≤ 74 → RP M_X12_begin 2 [some (.ref 99), some (.int (iI s)), some (.int (iI l)), some (.int (iI (k : Int)))] [] (zb G 99 k) (vv fun g => mBeg G 99 s l = g) := by
  refine cnt ?_ (fun k hk ih => ?_)
  · skip
    refine k_iload_n dX12_begin_2 rfl ?_
    refine k_bipush dX12_begin_3 (by decide) ?_
    refine k_icmp_ge 18 dX12_begin_5 (by decide) ⟨by omega, by omega⟩ ⟨by decide, by decide⟩ (fun h5 => ?_) (fun h5 => absurd h5 (by omega))
    refine k_aload_n dX12_begin_18 rfl ?_
    refine k_iconst dX12_begin_19 ?_
    refine k_iload_n dX12_begin_20 rfl ?_
    refine k_iast (1) dX12_begin_21 (Nat.le_of_ble_eq_true rfl) sh_a99 (by decide) (by omega) (by omega) ?_
    refine k_aload_n dX12_begin_22 rfl ?_
    refine k_iconst dX12_begin_23 ?_
    refine k_iload_n dX12_begin_24 rfl ?_
    refine k_iast (2) dX12_begin_25 (Nat.le_of_ble_eq_true rfl) sh_a99 (by decide) (by omega) (by omega) ?_
    exact k_ret dX12_begin_26 rfl ⟨rfl, rfl⟩
  · skip
    refine k_iload_n dX12_begin_2 rfl ?_
    refine k_bipush dX12_begin_3 (by decide) ?_
    refine k_icmp_ge 18 dX12_begin_5 (by decide) ⟨by omega, by omega⟩ ⟨by decide, by decide⟩ (fun h5 => absurd h5 (by omega)) (fun h5 => ?_)
    refine k_aload_n dX12_begin_8 rfl ?_
    refine k_iload_n dX12_begin_9 rfl ?_
    refine k_iconst dX12_begin_10 ?_
    refine k_iast k dX12_begin_11 (Nat.le_of_ble_eq_true rfl) sh_a99 (by decide) (by omega) (by omega) ?_
    refine k_iinc (L' := [_, _, _, _]) dX12_begin_12 rfl (Nat.le_of_ble_eq_true rfl) rfl ?_
    refine k_goto 2 dX12_begin_15 (by decide) ?_
    rw [zb_s]
    exact ih
theorem m_xBegin99 {G : Mem} {s l : Int} : MP M_X12_begin [.ref 99, .int (iI s), .int (iI l)] G (vv fun g => mBeg G 99 s l = g) := by
  refine MP.of [some (.ref 99), some (.int (iI s)), some (.int (iI l)), none] (plainFor_of_name pn_X12) (Nat.le_of_ble_eq_true rfl) rfl ?_
  refine k_iconst dX12_begin_0 ?_
  refine k_istore_n (L' := [_, _, _, _]) dX12_begin_1 (Nat.le_of_ble_eq_true rfl) rfl ?_
  have h := lp_xBegin99 (G := G) (s := s) (l := l) 0 (by omega)
  rw [zb_0] at h
  exact h
theorem m_xLayChild99 {G : Mem} (hn : 0 ≤ G 99 0 ∧ G 99 0 < 6) {k h c s b : Int} : MP M_X12_layChild [.ref 99, .int (iI k), .int (iI h), .int (iI c), .int (iI s), .int (iI b)] G (vv fun g => mAdd G 99 k h c s b = g) := by
  refine MP.of [some (.ref 99), some (.int (iI k)), some (.int (iI h)), some (.int (iI c)), some (.int (iI s)), some (.int (iI b)), none] (plainFor_of_name pn_X12) (Nat.le_of_ble_eq_true rfl) rfl ?_
  refine k_bipush dX12_layChild_0 (by decide) ?_
  refine k_iconst dX12_layChild_2 ?_
  refine k_aload_n dX12_layChild_3 rfl ?_
  refine k_iconst dX12_layChild_4 ?_
  refine k_iald (0) dX12_layChild_5 (Nat.le_of_ble_eq_true rfl) sh_a99 (by decide) (by omega) (by omega) ?_
  refine k_imul dX12_layChild_6 ?_
  refine k_iadd dX12_layChild_7 ?_
  refine k_istore (L' := [_, _, _, _, _, _, _]) dX12_layChild_8 (Nat.le_of_ble_eq_true rfl) rfl ?_
  refine k_aload_n dX12_layChild_10 rfl ?_
  refine k_iload dX12_layChild_11 rfl ?_
  refine k_iconst dX12_layChild_13 ?_
  refine k_iadd dX12_layChild_14 ?_
  refine k_iload_n dX12_layChild_15 rfl ?_
  refine k_iast (6 + 5 * (G 99 0).toNat) dX12_layChild_16 (Nat.le_of_ble_eq_true rfl) sh_a99 (by decide) (by omega) (by omega) ?_
  refine k_aload_n dX12_layChild_17 rfl ?_
  refine k_iload dX12_layChild_18 rfl ?_
  refine k_iconst dX12_layChild_20 ?_
  refine k_iadd dX12_layChild_21 ?_
  refine k_iload_n dX12_layChild_22 rfl ?_
  refine k_iast (6 + 5 * (G 99 0).toNat + 1) dX12_layChild_23 (Nat.le_of_ble_eq_true rfl) sh_a99 (by decide) (by omega) (by omega) ?_
  refine k_aload_n dX12_layChild_24 rfl ?_
  refine k_iload dX12_layChild_25 rfl ?_
  refine k_iconst dX12_layChild_27 ?_
  refine k_iadd dX12_layChild_28 ?_
  refine k_iload_n dX12_layChild_29 rfl ?_
  refine k_iast (6 + 5 * (G 99 0).toNat + 2) dX12_layChild_30 (Nat.le_of_ble_eq_true rfl) sh_a99 (by decide) (by omega) (by omega) ?_
  refine k_aload_n dX12_layChild_31 rfl ?_
  refine k_iload dX12_layChild_32 rfl ?_
  refine k_iconst dX12_layChild_34 ?_
  refine k_iadd dX12_layChild_35 ?_
  refine k_iload dX12_layChild_36 rfl ?_
  refine k_iast (6 + 5 * (G 99 0).toNat + 3) dX12_layChild_38 (Nat.le_of_ble_eq_true rfl) sh_a99 (by decide) (by omega) (by omega) ?_
  refine k_aload_n dX12_layChild_39 rfl ?_
  refine k_iload dX12_layChild_40 rfl ?_
  refine k_iconst dX12_layChild_42 ?_
  refine k_iadd dX12_layChild_43 ?_
  refine k_iload dX12_layChild_44 rfl ?_
  refine k_iast (6 + 5 * (G 99 0).toNat + 4) dX12_layChild_46 (Nat.le_of_ble_eq_true rfl) sh_a99 (by decide) (by omega) (by omega) ?_
  refine k_aload_n dX12_layChild_47 rfl ?_
  refine k_iconst dX12_layChild_48 ?_
  refine k_dup2 dX12_layChild_49 rfl rfl ?_
  refine k_iald (0) dX12_layChild_50 (Nat.le_of_ble_eq_true rfl) sh_a99 (by decide) (by omega) (by omega) ?_
  simp (disch := omega) only [ug_at, ug_nc, ug_np]
  refine k_iconst dX12_layChild_51 ?_
  refine k_iadd dX12_layChild_52 ?_
  refine k_iast (0) dX12_layChild_53 (Nat.le_of_ble_eq_true rfl) sh_a99 (by decide) (by omega) (by omega) ?_
  exact k_ret dX12_layChild_54 rfl ⟨rfl, rfl⟩
theorem m_xRoad {G : Mem} {s l : Int} (hs : R32 s) (hl : R32 l) : MP M_X12_road [.ref 86, .int (iI s), .int (iI l)] G (vi fun v g => if (0 ≤ s ∧ s ≤ 47) ∧ (0 ≤ l ∧ l ≤ 2) then (G 87 0 = v ∧ mBeg G 87 s l = g) else (-2 = v ∧ xB G = g)) := by
  refine MP.of [some (.ref 86), some (.int (iI s)), some (.int (iI l)), none] (plainFor_of_name pn_X12) (Nat.le_of_ble_eq_true rfl) rfl ?_
  refine k_iload_n dX12_road_0 rfl ?_
  refine k_i2l dX12_road_1 ⟨by omega, by omega⟩ ?_
  refine k_lconst dX12_road_2 ?_
  refine k_ldc2 47 dX12_road_3 w_901 ?_
  refine k_callSi [.long (lI _), .long (lI _), .long (lI _)] dX12_road_6 s_X12_road_65 rfl (m_xIn (by first | assumption | exact ⟨by omega, by omega⟩) (by first | assumption | exact ⟨by omega, by omega⟩) (by first | assumption | exact ⟨by omega, by omega⟩)) rfl (Nat.le_of_ble_eq_true rfl) ?_
  rintro _ _ ⟨rfl, rfl⟩
  refine k_ifb_eq 24 dX12_road_9 (by decide) (fun h9 => ?_) (fun h9 => ?_)
  · skip
    refine k_aload_n dX12_road_24 rfl ?_
    refine k_bipush dX12_road_25 (by decide) ?_
    refine k_callVi [.int (iI _)] dX12_road_27 s_X12_road_75 rfl m_xBad rfl (Nat.le_of_ble_eq_true rfl) sh_o86 ⟨_, rfl, rfl⟩ (Nat.le_of_ble_eq_true rfl) ?_
    rintro _ _ ⟨rfl, rfl⟩
    exact k_iret dX12_road_30 rfl ⟨_, rfl, by (try dsimp only); first | (rw [if_pos (by omega)]; exact ⟨rfl, rfl⟩) | (rw [if_neg (by omega)]; exact ⟨rfl, rfl⟩)⟩
  · skip
    refine k_iload_n dX12_road_12 rfl ?_
    refine k_i2l dX12_road_13 ⟨by omega, by omega⟩ ?_
    refine k_lconst dX12_road_14 ?_
    refine k_ldc2 2 dX12_road_15 w_905 ?_
    refine k_callSi [.long (lI _), .long (lI _), .long (lI _)] dX12_road_18 s_X12_road_65 rfl (m_xIn (by first | assumption | exact ⟨by omega, by omega⟩) (by first | assumption | exact ⟨by omega, by omega⟩) (by first | assumption | exact ⟨by omega, by omega⟩)) rfl (Nat.le_of_ble_eq_true rfl) ?_
    rintro _ _ ⟨rfl, rfl⟩
    refine k_ifb_ne 31 dX12_road_21 (by decide) (fun h21 => ?_) (fun h21 => ?_)
    · skip
      refine k_aload_n dX12_road_31 rfl ?_
      refine k_callVi [] dX12_road_32 s_X12_road_61 rfl m_xChildren rfl (Nat.le_of_ble_eq_true rfl) sh_o86 ⟨_, rfl, rfl⟩ (Nat.le_of_ble_eq_true rfl) ?_
      rintro _ _ ⟨rfl, rfl⟩
      refine k_istore_n (L' := [_, _, _, _]) dX12_road_35 (Nat.le_of_ble_eq_true rfl) rfl ?_
      refine k_aload_n dX12_road_36 rfl ?_
      refine k_getR dX12_road_37 f_X12_7 (Nat.le_of_ble_eq_true rfl) sh_o86 (fun _ => rfl) ?_
      refine k_iload_n dX12_road_40 rfl ?_
      refine k_iload_n dX12_road_41 rfl ?_
      refine k_callSv [.ref _, .int (iI _), .int (iI _)] dX12_road_42 s_X12_road_57 rfl m_xBegin87 rfl (Nat.le_of_ble_eq_true rfl) ?_
      rintro _ rfl
      refine k_iload_n dX12_road_45 rfl ?_
      exact k_iret dX12_road_46 rfl ⟨_, rfl, by (try dsimp only); first | (rw [if_pos (by omega)]; exact ⟨rfl, rfl⟩) | (rw [if_neg (by omega)]; exact ⟨rfl, rfl⟩)⟩
    · skip
      refine k_aload_n dX12_road_24 rfl ?_
      refine k_bipush dX12_road_25 (by decide) ?_
      refine k_callVi [.int (iI _)] dX12_road_27 s_X12_road_75 rfl m_xBad rfl (Nat.le_of_ble_eq_true rfl) sh_o86 ⟨_, rfl, rfl⟩ (Nat.le_of_ble_eq_true rfl) ?_
      rintro _ _ ⟨rfl, rfl⟩
      exact k_iret dX12_road_30 rfl ⟨_, rfl, by (try dsimp only); first | (rw [if_pos (by omega)]; exact ⟨rfl, rfl⟩) | (rw [if_neg (by omega)]; exact ⟨rfl, rfl⟩)⟩
theorem m_xRule {G : Mem} {n : Int} (hn : R32 n) : MP M_X12_rule [.ref 86, .int (iI n)] G (vi fun v g => if 0 ≤ n ∧ n ≤ 2 then (G 87 2 = v ∧ ug G 87 2 n = g) else (-2 = v ∧ xB G = g)) := by
  refine MP.of [some (.ref 86), some (.int (iI n)), none] (plainFor_of_name pn_X12) (Nat.le_of_ble_eq_true rfl) rfl ?_
  refine k_iload_n dX12_rule_0 rfl ?_
  refine k_i2l dX12_rule_1 ⟨by omega, by omega⟩ ?_
  refine k_lconst dX12_rule_2 ?_
  refine k_ldc2 2 dX12_rule_3 w_905 ?_
  refine k_callSi [.long (lI _), .long (lI _), .long (lI _)] dX12_rule_6 s_X12_rule_65 rfl (m_xIn (by first | assumption | exact ⟨by omega, by omega⟩) (by first | assumption | exact ⟨by omega, by omega⟩) (by first | assumption | exact ⟨by omega, by omega⟩)) rfl (Nat.le_of_ble_eq_true rfl) ?_
  rintro _ _ ⟨rfl, rfl⟩
  refine k_ifb_ne 19 dX12_rule_9 (by decide) (fun h9 => ?_) (fun h9 => ?_)
  · skip
    refine k_aload_n dX12_rule_19 rfl ?_
    refine k_getR dX12_rule_20 f_X12_7 (Nat.le_of_ble_eq_true rfl) sh_o86 (fun _ => rfl) ?_
    refine k_iconst dX12_rule_23 ?_
    refine k_iald (2) dX12_rule_24 (Nat.le_of_ble_eq_true rfl) sh_a87 (by decide) (by omega) (by omega) ?_
    refine k_istore_n (L' := [_, _, _]) dX12_rule_25 (Nat.le_of_ble_eq_true rfl) rfl ?_
    refine k_aload_n dX12_rule_26 rfl ?_
    refine k_getR dX12_rule_27 f_X12_7 (Nat.le_of_ble_eq_true rfl) sh_o86 (fun _ => rfl) ?_
    refine k_iconst dX12_rule_30 ?_
    refine k_iload_n dX12_rule_31 rfl ?_
    refine k_iast (2) dX12_rule_32 (Nat.le_of_ble_eq_true rfl) sh_a87 (by decide) (by omega) (by omega) ?_
    refine k_iload_n dX12_rule_33 rfl ?_
    exact k_iret dX12_rule_34 rfl ⟨_, rfl, by (try dsimp only); first | (rw [if_pos (by omega)]; exact ⟨rfl, rfl⟩) | (rw [if_neg (by omega)]; exact ⟨rfl, rfl⟩)⟩
  · skip
    refine k_aload_n dX12_rule_12 rfl ?_
    refine k_bipush dX12_rule_13 (by decide) ?_
    refine k_callVi [.int (iI _)] dX12_rule_15 s_X12_rule_75 rfl m_xBad rfl (Nat.le_of_ble_eq_true rfl) sh_o86 ⟨_, rfl, rfl⟩ (Nat.le_of_ble_eq_true rfl) ?_
    rintro _ _ ⟨rfl, rfl⟩
    exact k_iret dX12_rule_18 rfl ⟨_, rfl, by (try dsimp only); first | (rw [if_pos (by omega)]; exact ⟨rfl, rfl⟩) | (rw [if_neg (by omega)]; exact ⟨rfl, rfl⟩)⟩
theorem m_xSight {G : Mem} {n : Int} (hn : R32 n) : MP M_X12_sight [.ref 86, .int (iI n)] G (vi fun v g => if 0 ≤ n ∧ n ≤ 47 then (G 87 1 = v ∧ ug G 87 1 n = g) else (-2 = v ∧ xB G = g)) := by
  refine MP.of [some (.ref 86), some (.int (iI n)), none] (plainFor_of_name pn_X12) (Nat.le_of_ble_eq_true rfl) rfl ?_
  refine k_iload_n dX12_sight_0 rfl ?_
  refine k_i2l dX12_sight_1 ⟨by omega, by omega⟩ ?_
  refine k_lconst dX12_sight_2 ?_
  refine k_ldc2 47 dX12_sight_3 w_901 ?_
  refine k_callSi [.long (lI _), .long (lI _), .long (lI _)] dX12_sight_6 s_X12_sight_65 rfl (m_xIn (by first | assumption | exact ⟨by omega, by omega⟩) (by first | assumption | exact ⟨by omega, by omega⟩) (by first | assumption | exact ⟨by omega, by omega⟩)) rfl (Nat.le_of_ble_eq_true rfl) ?_
  rintro _ _ ⟨rfl, rfl⟩
  refine k_ifb_ne 19 dX12_sight_9 (by decide) (fun h9 => ?_) (fun h9 => ?_)
  · skip
    refine k_aload_n dX12_sight_19 rfl ?_
    refine k_getR dX12_sight_20 f_X12_7 (Nat.le_of_ble_eq_true rfl) sh_o86 (fun _ => rfl) ?_
    refine k_iconst dX12_sight_23 ?_
    refine k_iald (1) dX12_sight_24 (Nat.le_of_ble_eq_true rfl) sh_a87 (by decide) (by omega) (by omega) ?_
    refine k_istore_n (L' := [_, _, _]) dX12_sight_25 (Nat.le_of_ble_eq_true rfl) rfl ?_
    refine k_aload_n dX12_sight_26 rfl ?_
    refine k_getR dX12_sight_27 f_X12_7 (Nat.le_of_ble_eq_true rfl) sh_o86 (fun _ => rfl) ?_
    refine k_iconst dX12_sight_30 ?_
    refine k_iload_n dX12_sight_31 rfl ?_
    refine k_iast (1) dX12_sight_32 (Nat.le_of_ble_eq_true rfl) sh_a87 (by decide) (by omega) (by omega) ?_
    refine k_iload_n dX12_sight_33 rfl ?_
    exact k_iret dX12_sight_34 rfl ⟨_, rfl, by (try dsimp only); first | (rw [if_pos (by omega)]; exact ⟨rfl, rfl⟩) | (rw [if_neg (by omega)]; exact ⟨rfl, rfl⟩)⟩
  · skip
    refine k_aload_n dX12_sight_12 rfl ?_
    refine k_bipush dX12_sight_13 (by decide) ?_
    refine k_callVi [.int (iI _)] dX12_sight_15 s_X12_sight_75 rfl m_xBad rfl (Nat.le_of_ble_eq_true rfl) sh_o86 ⟨_, rfl, rfl⟩ (Nat.le_of_ble_eq_true rfl) ?_
    rintro _ _ ⟨rfl, rfl⟩
    exact k_iret dX12_sight_18 rfl ⟨_, rfl, by (try dsimp only); first | (rw [if_pos (by omega)]; exact ⟨rfl, rfl⟩) | (rw [if_neg (by omega)]; exact ⟨rfl, rfl⟩)⟩
theorem m_xStop {G : Mem} : MP M_X12_stop [.ref 86] G (vi fun v g => G 87 3 = v ∧ ug G 87 3 0 = g) := by
  refine MP.of [some (.ref 86), none] (plainFor_of_name pn_X12) (Nat.le_of_ble_eq_true rfl) rfl ?_
  refine k_aload_n dX12_stop_0 rfl ?_
  refine k_getR dX12_stop_1 f_X12_7 (Nat.le_of_ble_eq_true rfl) sh_o86 (fun _ => rfl) ?_
  refine k_iconst dX12_stop_4 ?_
  refine k_iald (3) dX12_stop_5 (Nat.le_of_ble_eq_true rfl) sh_a87 (by decide) (by omega) (by omega) ?_
  refine k_istore_n (L' := [_, _]) dX12_stop_6 (Nat.le_of_ble_eq_true rfl) rfl ?_
  refine k_aload_n dX12_stop_7 rfl ?_
  refine k_getR dX12_stop_8 f_X12_7 (Nat.le_of_ble_eq_true rfl) sh_o86 (fun _ => rfl) ?_
  refine k_iconst dX12_stop_11 ?_
  refine k_iconst dX12_stop_12 ?_
  refine k_iast (3) dX12_stop_13 (Nat.le_of_ble_eq_true rfl) sh_a87 (by decide) (by omega) (by omega) ?_
  refine k_iload_n dX12_stop_14 rfl ?_
  exact k_iret dX12_stop_15 rfl ⟨_, rfl, rfl, rfl⟩
theorem m_xForget {G : Mem} : MP M_X12_forget [.ref 86] G (vi fun v g => G 87 4 = v ∧ ug G 87 4 0 = g) := by
  refine MP.of [some (.ref 86), none] (plainFor_of_name pn_X12) (Nat.le_of_ble_eq_true rfl) rfl ?_
  refine k_aload_n dX12_forget_0 rfl ?_
  refine k_getR dX12_forget_1 f_X12_7 (Nat.le_of_ble_eq_true rfl) sh_o86 (fun _ => rfl) ?_
  refine k_iconst dX12_forget_4 ?_
  refine k_iald (4) dX12_forget_5 (Nat.le_of_ble_eq_true rfl) sh_a87 (by decide) (by omega) (by omega) ?_
  refine k_istore_n (L' := [_, _]) dX12_forget_6 (Nat.le_of_ble_eq_true rfl) rfl ?_
  refine k_aload_n dX12_forget_7 rfl ?_
  refine k_getR dX12_forget_8 f_X12_7 (Nat.le_of_ble_eq_true rfl) sh_o86 (fun _ => rfl) ?_
  refine k_iconst dX12_forget_11 ?_
  refine k_iconst dX12_forget_12 ?_
  refine k_iast (4) dX12_forget_13 (Nat.le_of_ble_eq_true rfl) sh_a87 (by decide) (by omega) (by omega) ?_
  refine k_iload_n dX12_forget_14 rfl ?_
  exact k_iret dX12_forget_15 rfl ⟨_, rfl, rfl, rfl⟩
theorem m_xClear {G : Mem} : MP M_X12_clear [.ref 86] G (vi fun v g => G 86 15 = v ∧ ug G 86 15 0 = g) := by
  refine MP.of [some (.ref 86), none] (plainFor_of_name pn_X12) (Nat.le_of_ble_eq_true rfl) rfl ?_
  refine k_aload_n dX12_clear_0 rfl ?_
  refine k_getI dX12_clear_1 f_X12_225 (Nat.le_of_ble_eq_true rfl) sh_o86 (fun _ => rfl) ?_
  refine k_istore_n (L' := [_, _]) dX12_clear_4 (Nat.le_of_ble_eq_true rfl) rfl ?_
  refine k_aload_n dX12_clear_5 rfl ?_
  refine k_iconst dX12_clear_6 ?_
  refine k_putI dX12_clear_7 f_X12_225 (Nat.le_of_ble_eq_true rfl) sh_o86 (fun _ => (Nat.le_of_ble_eq_true rfl)) rfl (fun _ => rfl) ?_
  refine k_iload_n dX12_clear_10 rfl ?_
  exact k_iret dX12_clear_11 rfl ⟨_, rfl, rfl, rfl⟩
theorem m_xChild {G : Mem} (hn : 0 ≤ G 87 0 ∧ G 87 0 ≤ 6) {k h c s b : Int} (hk : R32 k) (hh : R32 h) (hc : R32 c) (hs : R32 s) (hb : R32 b) : MP M_X12_child [.ref 86, .int (iI k), .int (iI h), .int (iI c), .int (iI s), .int (iI b)] G (vi fun v g => if (0 ≤ k ∧ k ≤ 5) ∧ (1 ≤ h ∧ h ≤ 9) ∧ (0 ≤ c ∧ c ≤ 47) ∧ (0 ≤ s ∧ s ≤ 3) ∧ (0 ≤ b ∧ b ≤ 60) then (if G 87 0 < 6 then (G 87 0 = v ∧ ug (mAdd G 87 k h c s b) 87 5 0 = g) else (-4 = v ∧ xF G = g)) else (-2 = v ∧ xB G = g)) := by
  refine MP.of [some (.ref 86), some (.int (iI k)), some (.int (iI h)), some (.int (iI c)), some (.int (iI s)), some (.int (iI b))] (plainFor_of_name pn_X12) (Nat.le_of_ble_eq_true rfl) rfl ?_
  refine k_iload_n dX12_child_0 rfl ?_
  refine k_i2l dX12_child_1 ⟨by omega, by omega⟩ ?_
  refine k_lconst dX12_child_2 ?_
  refine k_ldc2 5 dX12_child_3 w_926 ?_
  refine k_callSi [.long (lI _), .long (lI _), .long (lI _)] dX12_child_6 s_X12_child_65 rfl (m_xIn (by first | assumption | exact ⟨by omega, by omega⟩) (by first | assumption | exact ⟨by omega, by omega⟩) (by first | assumption | exact ⟨by omega, by omega⟩)) rfl (Nat.le_of_ble_eq_true rfl) ?_
  rintro _ _ ⟨rfl, rfl⟩
  refine k_ifb_eq 57 dX12_child_9 (by decide) (fun h9 => ?_) (fun h9 => ?_)
  · skip
    refine k_aload_n dX12_child_57 rfl ?_
    refine k_bipush dX12_child_58 (by decide) ?_
    refine k_callVi [.int (iI _)] dX12_child_60 s_X12_child_75 rfl m_xBad rfl (Nat.le_of_ble_eq_true rfl) sh_o86 ⟨_, rfl, rfl⟩ (Nat.le_of_ble_eq_true rfl) ?_
    rintro _ _ ⟨rfl, rfl⟩
    exact k_iret dX12_child_63 rfl ⟨_, rfl, by (try dsimp only); first | (rw [if_neg (by omega)]; exact ⟨rfl, rfl⟩) | (rw [if_pos (by omega), if_neg (by omega)]; exact ⟨rfl, rfl⟩) | (rw [if_pos (by omega), if_pos (by omega)]; exact ⟨rfl, rfl⟩) | (rw [if_pos (by omega), if_pos (by omega)]; refine ⟨?_, rfl⟩; unfold mAdd; simp (disch := omega) only [ug_at, ug_nc, ug_np]; omega)⟩
  · skip
    refine k_iload_n dX12_child_12 rfl ?_
    refine k_i2l dX12_child_13 ⟨by omega, by omega⟩ ?_
    refine k_lconst dX12_child_14 ?_
    refine k_ldc2 9 dX12_child_15 w_927 ?_
    refine k_callSi [.long (lI _), .long (lI _), .long (lI _)] dX12_child_18 s_X12_child_65 rfl (m_xIn (by first | assumption | exact ⟨by omega, by omega⟩) (by first | assumption | exact ⟨by omega, by omega⟩) (by first | assumption | exact ⟨by omega, by omega⟩)) rfl (Nat.le_of_ble_eq_true rfl) ?_
    rintro _ _ ⟨rfl, rfl⟩
    refine k_ifb_eq 57 dX12_child_21 (by decide) (fun h21 => ?_) (fun h21 => ?_)
    · skip
      refine k_aload_n dX12_child_57 rfl ?_
      refine k_bipush dX12_child_58 (by decide) ?_
      refine k_callVi [.int (iI _)] dX12_child_60 s_X12_child_75 rfl m_xBad rfl (Nat.le_of_ble_eq_true rfl) sh_o86 ⟨_, rfl, rfl⟩ (Nat.le_of_ble_eq_true rfl) ?_
      rintro _ _ ⟨rfl, rfl⟩
      exact k_iret dX12_child_63 rfl ⟨_, rfl, by (try dsimp only); first | (rw [if_neg (by omega)]; exact ⟨rfl, rfl⟩) | (rw [if_pos (by omega), if_neg (by omega)]; exact ⟨rfl, rfl⟩) | (rw [if_pos (by omega), if_pos (by omega)]; exact ⟨rfl, rfl⟩) | (rw [if_pos (by omega), if_pos (by omega)]; refine ⟨?_, rfl⟩; unfold mAdd; simp (disch := omega) only [ug_at, ug_nc, ug_np]; omega)⟩
    · skip
      refine k_iload_n dX12_child_24 rfl ?_
      refine k_callSi [.int (iI _)] dX12_child_25 s_X12_child_83 rfl (m_xisCell (by first | assumption | exact ⟨by omega, by omega⟩)) rfl (Nat.le_of_ble_eq_true rfl) ?_
      rintro _ _ ⟨rfl, rfl⟩
      refine k_ifb_eq 57 dX12_child_28 (by decide) (fun h28 => ?_) (fun h28 => ?_)
      · skip
        refine k_aload_n dX12_child_57 rfl ?_
        refine k_bipush dX12_child_58 (by decide) ?_
        refine k_callVi [.int (iI _)] dX12_child_60 s_X12_child_75 rfl m_xBad rfl (Nat.le_of_ble_eq_true rfl) sh_o86 ⟨_, rfl, rfl⟩ (Nat.le_of_ble_eq_true rfl) ?_
        rintro _ _ ⟨rfl, rfl⟩
        exact k_iret dX12_child_63 rfl ⟨_, rfl, by (try dsimp only); first | (rw [if_neg (by omega)]; exact ⟨rfl, rfl⟩) | (rw [if_pos (by omega), if_neg (by omega)]; exact ⟨rfl, rfl⟩) | (rw [if_pos (by omega), if_pos (by omega)]; exact ⟨rfl, rfl⟩) | (rw [if_pos (by omega), if_pos (by omega)]; refine ⟨?_, rfl⟩; unfold mAdd; simp (disch := omega) only [ug_at, ug_nc, ug_np]; omega)⟩
      · skip
        refine k_iload dX12_child_31 rfl ?_
        refine k_i2l dX12_child_33 ⟨by omega, by omega⟩ ?_
        refine k_lconst dX12_child_34 ?_
        refine k_ldc2 3 dX12_child_35 w_931 ?_
        refine k_callSi [.long (lI _), .long (lI _), .long (lI _)] dX12_child_38 s_X12_child_65 rfl (m_xIn (by first | assumption | exact ⟨by omega, by omega⟩) (by first | assumption | exact ⟨by omega, by omega⟩) (by first | assumption | exact ⟨by omega, by omega⟩)) rfl (Nat.le_of_ble_eq_true rfl) ?_
        rintro _ _ ⟨rfl, rfl⟩
        refine k_ifb_eq 57 dX12_child_41 (by decide) (fun h41 => ?_) (fun h41 => ?_)
        · skip
          refine k_aload_n dX12_child_57 rfl ?_
          refine k_bipush dX12_child_58 (by decide) ?_
          refine k_callVi [.int (iI _)] dX12_child_60 s_X12_child_75 rfl m_xBad rfl (Nat.le_of_ble_eq_true rfl) sh_o86 ⟨_, rfl, rfl⟩ (Nat.le_of_ble_eq_true rfl) ?_
          rintro _ _ ⟨rfl, rfl⟩
          exact k_iret dX12_child_63 rfl ⟨_, rfl, by (try dsimp only); first | (rw [if_neg (by omega)]; exact ⟨rfl, rfl⟩) | (rw [if_pos (by omega), if_neg (by omega)]; exact ⟨rfl, rfl⟩) | (rw [if_pos (by omega), if_pos (by omega)]; exact ⟨rfl, rfl⟩) | (rw [if_pos (by omega), if_pos (by omega)]; refine ⟨?_, rfl⟩; unfold mAdd; simp (disch := omega) only [ug_at, ug_nc, ug_np]; omega)⟩
        · skip
          refine k_iload dX12_child_44 rfl ?_
          refine k_i2l dX12_child_46 ⟨by omega, by omega⟩ ?_
          refine k_lconst dX12_child_47 ?_
          refine k_ldc2 60 dX12_child_48 w_932 ?_
          refine k_callSi [.long (lI _), .long (lI _), .long (lI _)] dX12_child_51 s_X12_child_65 rfl (m_xIn (by first | assumption | exact ⟨by omega, by omega⟩) (by first | assumption | exact ⟨by omega, by omega⟩) (by first | assumption | exact ⟨by omega, by omega⟩)) rfl (Nat.le_of_ble_eq_true rfl) ?_
          rintro _ _ ⟨rfl, rfl⟩
          refine k_ifb_ne 64 dX12_child_54 (by decide) (fun h54 => ?_) (fun h54 => ?_)
          · skip
            refine k_aload_n dX12_child_64 rfl ?_
            refine k_callVi [] dX12_child_65 s_X12_child_61 rfl m_xChildren rfl (Nat.le_of_ble_eq_true rfl) sh_o86 ⟨_, rfl, rfl⟩ (Nat.le_of_ble_eq_true rfl) ?_
            rintro _ _ ⟨rfl, rfl⟩
            refine k_bipush dX12_child_68 (by decide) ?_
            refine k_icmp_ne 78 dX12_child_70 (by decide) ⟨by omega, by omega⟩ ⟨by decide, by decide⟩ (fun h70 => ?_) (fun h70 => ?_)
            · skip
              refine k_aload_n dX12_child_78 rfl ?_
              refine k_getR dX12_child_79 f_X12_7 (Nat.le_of_ble_eq_true rfl) sh_o86 (fun _ => rfl) ?_
              refine k_iload_n dX12_child_82 rfl ?_
              refine k_iload_n dX12_child_83 rfl ?_
              refine k_iload_n dX12_child_84 rfl ?_
              refine k_iload dX12_child_85 rfl ?_
              refine k_iload dX12_child_87 rfl ?_
              refine k_callSv [.ref _, .int (iI _), .int (iI _), .int (iI _), .int (iI _), .int (iI _)] dX12_child_89 s_X12_child_94 rfl (m_xLayChild87 (by omega)) rfl (Nat.le_of_ble_eq_true rfl) ?_
              rintro _ rfl
              refine k_aload_n dX12_child_92 rfl ?_
              refine k_getR dX12_child_93 f_X12_7 (Nat.le_of_ble_eq_true rfl) sh_o86 (fun _ => rfl) ?_
              refine k_iconst dX12_child_96 ?_
              refine k_iconst dX12_child_97 ?_
              refine k_iast (5) dX12_child_98 (Nat.le_of_ble_eq_true rfl) sh_a87 (by decide) (by omega) (by omega) ?_
              refine k_aload_n dX12_child_99 rfl ?_
              refine k_callVi [] dX12_child_100 s_X12_child_61 rfl m_xChildren rfl (Nat.le_of_ble_eq_true rfl) sh_o86 ⟨_, rfl, rfl⟩ (Nat.le_of_ble_eq_true rfl) ?_
              rintro _ _ ⟨rfl, rfl⟩
              refine k_iconst dX12_child_103 ?_
              refine k_isub dX12_child_104 ?_
              exact k_iret dX12_child_105 rfl ⟨_, rfl, by (try dsimp only); first | (rw [if_neg (by omega)]; exact ⟨rfl, rfl⟩) | (rw [if_pos (by omega), if_neg (by omega)]; exact ⟨rfl, rfl⟩) | (rw [if_pos (by omega), if_pos (by omega)]; exact ⟨rfl, rfl⟩) | (rw [if_pos (by omega), if_pos (by omega)]; refine ⟨?_, rfl⟩; unfold mAdd; simp (disch := omega) only [ug_at, ug_nc, ug_np]; omega)⟩
            · skip
              refine k_aload_n dX12_child_73 rfl ?_
              refine k_callVi [] dX12_child_74 s_X12_child_91 rfl m_xFull rfl (Nat.le_of_ble_eq_true rfl) sh_o86 ⟨_, rfl, rfl⟩ (Nat.le_of_ble_eq_true rfl) ?_
              rintro _ _ ⟨rfl, rfl⟩
              exact k_iret dX12_child_77 rfl ⟨_, rfl, by (try dsimp only); first | (rw [if_neg (by omega)]; exact ⟨rfl, rfl⟩) | (rw [if_pos (by omega), if_neg (by omega)]; exact ⟨rfl, rfl⟩) | (rw [if_pos (by omega), if_pos (by omega)]; exact ⟨rfl, rfl⟩) | (rw [if_pos (by omega), if_pos (by omega)]; refine ⟨?_, rfl⟩; unfold mAdd; simp (disch := omega) only [ug_at, ug_nc, ug_np]; omega)⟩
          · skip
            refine k_aload_n dX12_child_57 rfl ?_
            refine k_bipush dX12_child_58 (by decide) ?_
            refine k_callVi [.int (iI _)] dX12_child_60 s_X12_child_75 rfl m_xBad rfl (Nat.le_of_ble_eq_true rfl) sh_o86 ⟨_, rfl, rfl⟩ (Nat.le_of_ble_eq_true rfl) ?_
            rintro _ _ ⟨rfl, rfl⟩
            exact k_iret dX12_child_63 rfl ⟨_, rfl, by (try dsimp only); first | (rw [if_neg (by omega)]; exact ⟨rfl, rfl⟩) | (rw [if_pos (by omega), if_neg (by omega)]; exact ⟨rfl, rfl⟩) | (rw [if_pos (by omega), if_pos (by omega)]; exact ⟨rfl, rfl⟩) | (rw [if_pos (by omega), if_pos (by omega)]; refine ⟨?_, rfl⟩; unfold mAdd; simp (disch := omega) only [ug_at, ug_nc, ug_np]; omega)⟩
theorem m_xSpeed {G : Mem} (h8 : 0 ≤ G 87 3 ∧ G 87 3 ≤ 20) {n : Int} (hn : R32 n) : MP M_X12_speed [.ref 86, .int (iI n)] G (vi fun v g => if 0 ≤ n ∧ n ≤ 15 then (if G 87 3 < 20 then (G 87 3 + 1 = v ∧ ug (ug G 87 (36 + (G 87 3).toNat) n) 87 3 (G 87 3 + 1) = g) else (-4 = v ∧ xF G = g)) else (-2 = v ∧ xB G = g)) := by
  refine MP.of [some (.ref 86), some (.int (iI n))] (plainFor_of_name pn_X12) (Nat.le_of_ble_eq_true rfl) rfl ?_
  refine k_iload_n dX12_speed_0 rfl ?_
  refine k_i2l dX12_speed_1 ⟨by omega, by omega⟩ ?_
  refine k_lconst dX12_speed_2 ?_
  refine k_ldc2 15 dX12_speed_3 w_1069 ?_
  refine k_callSi [.long (lI _), .long (lI _), .long (lI _)] dX12_speed_6 s_X12_speed_65 rfl (m_xIn (by first | assumption | exact ⟨by omega, by omega⟩) (by first | assumption | exact ⟨by omega, by omega⟩) (by first | assumption | exact ⟨by omega, by omega⟩)) rfl (Nat.le_of_ble_eq_true rfl) ?_
  rintro _ _ ⟨rfl, rfl⟩
  refine k_ifb_ne 19 dX12_speed_9 (by decide) (fun h9 => ?_) (fun h9 => ?_)
  · skip
    refine k_aload_n dX12_speed_19 rfl ?_
    refine k_getR dX12_speed_20 f_X12_7 (Nat.le_of_ble_eq_true rfl) sh_o86 (fun _ => rfl) ?_
    refine k_iconst dX12_speed_23 ?_
    refine k_iald (3) dX12_speed_24 (Nat.le_of_ble_eq_true rfl) sh_a87 (by decide) (by omega) (by omega) ?_
    refine k_bipush dX12_speed_25 (by decide) ?_
    refine k_icmp_ne 35 dX12_speed_27 (by decide) ⟨by omega, by omega⟩ ⟨by decide, by decide⟩ (fun h27 => ?_) (fun h27 => ?_)
    · skip
      refine k_aload_n dX12_speed_35 rfl ?_
      refine k_getR dX12_speed_36 f_X12_7 (Nat.le_of_ble_eq_true rfl) sh_o86 (fun _ => rfl) ?_
      refine k_bipush dX12_speed_39 (by decide) ?_
      refine k_aload_n dX12_speed_41 rfl ?_
      refine k_getR dX12_speed_42 f_X12_7 (Nat.le_of_ble_eq_true rfl) sh_o86 (fun _ => rfl) ?_
      refine k_iconst dX12_speed_45 ?_
      refine k_iald (3) dX12_speed_46 (Nat.le_of_ble_eq_true rfl) sh_a87 (by decide) (by omega) (by omega) ?_
      refine k_iadd dX12_speed_47 ?_
      refine k_iload_n dX12_speed_48 rfl ?_
      refine k_iast (36 + (G 87 3).toNat) dX12_speed_49 (Nat.le_of_ble_eq_true rfl) sh_a87 (by decide) (by omega) (by omega) ?_
      refine k_aload_n dX12_speed_50 rfl ?_
      refine k_getR dX12_speed_51 f_X12_7 (Nat.le_of_ble_eq_true rfl) sh_o86 (fun _ => rfl) ?_
      refine k_iconst dX12_speed_54 ?_
      refine k_dup2 dX12_speed_55 rfl rfl ?_
      refine k_iald (3) dX12_speed_56 (Nat.le_of_ble_eq_true rfl) sh_a87 (by decide) (by omega) (by omega) ?_
      simp (disch := omega) only [ug_at, ug_nc, ug_np]
      refine k_iconst dX12_speed_57 ?_
      refine k_iadd dX12_speed_58 ?_
      refine k_iast (3) dX12_speed_59 (Nat.le_of_ble_eq_true rfl) sh_a87 (by decide) (by omega) (by omega) ?_
      refine k_aload_n dX12_speed_60 rfl ?_
      refine k_getR dX12_speed_61 f_X12_7 (Nat.le_of_ble_eq_true rfl) sh_o86 (fun _ => rfl) ?_
      refine k_iconst dX12_speed_64 ?_
      refine k_iald (3) dX12_speed_65 (Nat.le_of_ble_eq_true rfl) sh_a87 (by decide) (by omega) (by omega) ?_
      simp (disch := omega) only [ug_at, ug_nc, ug_np]
      exact k_iret dX12_speed_66 rfl ⟨_, rfl, by (try dsimp only); first | (rw [if_neg (by omega)]; exact ⟨rfl, rfl⟩) | (rw [if_pos (by omega)]; rw [if_pos (by omega)]; exact ⟨rfl, rfl⟩) | (rw [if_pos (by omega)]; rw [if_neg (by omega)]; exact ⟨rfl, rfl⟩)⟩
    · skip
      refine k_aload_n dX12_speed_30 rfl ?_
      refine k_callVi [] dX12_speed_31 s_X12_speed_91 rfl m_xFull rfl (Nat.le_of_ble_eq_true rfl) sh_o86 ⟨_, rfl, rfl⟩ (Nat.le_of_ble_eq_true rfl) ?_
      rintro _ _ ⟨rfl, rfl⟩
      exact k_iret dX12_speed_34 rfl ⟨_, rfl, by (try dsimp only); first | (rw [if_neg (by omega)]; exact ⟨rfl, rfl⟩) | (rw [if_pos (by omega)]; rw [if_pos (by omega)]; exact ⟨rfl, rfl⟩) | (rw [if_pos (by omega)]; rw [if_neg (by omega)]; exact ⟨rfl, rfl⟩)⟩
  · skip
    refine k_aload_n dX12_speed_12 rfl ?_
    refine k_bipush dX12_speed_13 (by decide) ?_
    refine k_callVi [.int (iI _)] dX12_speed_15 s_X12_speed_75 rfl m_xBad rfl (Nat.le_of_ble_eq_true rfl) sh_o86 ⟨_, rfl, rfl⟩ (Nat.le_of_ble_eq_true rfl) ?_
    rintro _ _ ⟨rfl, rfl⟩
    exact k_iret dX12_speed_18 rfl ⟨_, rfl, by (try dsimp only); first | (rw [if_neg (by omega)]; exact ⟨rfl, rfl⟩) | (rw [if_pos (by omega)]; rw [if_pos (by omega)]; exact ⟨rfl, rfl⟩) | (rw [if_pos (by omega)]; rw [if_neg (by omega)]; exact ⟨rfl, rfl⟩)⟩
theorem m_xReading {G : Mem} (h10 : 0 ≤ G 87 4 ∧ G 87 4 ≤ 6) {c t x : Int} (hc : R32 c) (ht : R32 t) (hx : R32 x) : MP M_X12_reading [.ref 86, .int (iI c), .int (iI t), .int (iI x)] G (vi fun v g => if (0 ≤ c ∧ c ≤ 47) ∧ (0 ≤ t ∧ t ≤ 59) ∧ (1 ≤ x ∧ x ≤ 9) then (if G 87 4 < 6 then (G 87 4 + 1 = v ∧ ug (ug (ug (ug G 87 (56 + 3 * (G 87 4).toNat) c) 87 (56 + 3 * (G 87 4).toNat + 1) t) 87 (56 + 3 * (G 87 4).toNat + 2) x) 87 4 (G 87 4 + 1) = g) else (-4 = v ∧ xF G = g)) else (-2 = v ∧ xB G = g)) := by
  refine MP.of [some (.ref 86), some (.int (iI c)), some (.int (iI t)), some (.int (iI x)), none] (plainFor_of_name pn_X12) (Nat.le_of_ble_eq_true rfl) rfl ?_
  refine k_iload_n dX12_reading_0 rfl ?_
  refine k_callSi [.int (iI _)] dX12_reading_1 s_X12_reading_83 rfl (m_xisCell (by first | assumption | exact ⟨by omega, by omega⟩)) rfl (Nat.le_of_ble_eq_true rfl) ?_
  rintro _ _ ⟨rfl, rfl⟩
  refine k_ifb_eq 26 dX12_reading_4 (by decide) (fun h4 => ?_) (fun h4 => ?_)
  · skip
    refine k_aload_n dX12_reading_26 rfl ?_
    refine k_bipush dX12_reading_27 (by decide) ?_
    refine k_callVi [.int (iI _)] dX12_reading_29 s_X12_reading_75 rfl m_xBad rfl (Nat.le_of_ble_eq_true rfl) sh_o86 ⟨_, rfl, rfl⟩ (Nat.le_of_ble_eq_true rfl) ?_
    rintro _ _ ⟨rfl, rfl⟩
    exact k_iret dX12_reading_32 rfl ⟨_, rfl, by (try dsimp only); first | (rw [if_neg (by omega)]; exact ⟨rfl, rfl⟩) | (rw [if_pos (by omega)]; rw [if_pos (by omega)]; exact ⟨rfl, rfl⟩) | (rw [if_pos (by omega)]; rw [if_neg (by omega)]; exact ⟨rfl, rfl⟩)⟩
  · skip
    refine k_iload_n dX12_reading_7 rfl ?_
    refine k_callSi [.int (iI _)] dX12_reading_8 s_X12_reading_149 rfl (m_xisMinute (by first | assumption | exact ⟨by omega, by omega⟩)) rfl (Nat.le_of_ble_eq_true rfl) ?_
    rintro _ _ ⟨rfl, rfl⟩
    refine k_ifb_eq 26 dX12_reading_11 (by decide) (fun h11 => ?_) (fun h11 => ?_)
    · skip
      refine k_aload_n dX12_reading_26 rfl ?_
      refine k_bipush dX12_reading_27 (by decide) ?_
      refine k_callVi [.int (iI _)] dX12_reading_29 s_X12_reading_75 rfl m_xBad rfl (Nat.le_of_ble_eq_true rfl) sh_o86 ⟨_, rfl, rfl⟩ (Nat.le_of_ble_eq_true rfl) ?_
      rintro _ _ ⟨rfl, rfl⟩
      exact k_iret dX12_reading_32 rfl ⟨_, rfl, by (try dsimp only); first | (rw [if_neg (by omega)]; exact ⟨rfl, rfl⟩) | (rw [if_pos (by omega)]; rw [if_pos (by omega)]; exact ⟨rfl, rfl⟩) | (rw [if_pos (by omega)]; rw [if_neg (by omega)]; exact ⟨rfl, rfl⟩)⟩
    · skip
      refine k_iload_n dX12_reading_14 rfl ?_
      refine k_i2l dX12_reading_15 ⟨by omega, by omega⟩ ?_
      refine k_lconst dX12_reading_16 ?_
      refine k_ldc2 9 dX12_reading_17 w_927 ?_
      refine k_callSi [.long (lI _), .long (lI _), .long (lI _)] dX12_reading_20 s_X12_reading_65 rfl (m_xIn (by first | assumption | exact ⟨by omega, by omega⟩) (by first | assumption | exact ⟨by omega, by omega⟩) (by first | assumption | exact ⟨by omega, by omega⟩)) rfl (Nat.le_of_ble_eq_true rfl) ?_
      rintro _ _ ⟨rfl, rfl⟩
      refine k_ifb_ne 33 dX12_reading_23 (by decide) (fun h23 => ?_) (fun h23 => ?_)
      · skip
        refine k_aload_n dX12_reading_33 rfl ?_
        refine k_getR dX12_reading_34 f_X12_7 (Nat.le_of_ble_eq_true rfl) sh_o86 (fun _ => rfl) ?_
        refine k_iconst dX12_reading_37 ?_
        refine k_iald (4) dX12_reading_38 (Nat.le_of_ble_eq_true rfl) sh_a87 (by decide) (by omega) (by omega) ?_
        refine k_bipush dX12_reading_39 (by decide) ?_
        refine k_icmp_ne 49 dX12_reading_41 (by decide) ⟨by omega, by omega⟩ ⟨by decide, by decide⟩ (fun h41 => ?_) (fun h41 => ?_)
        · skip
          refine k_bipush dX12_reading_49 (by decide) ?_
          refine k_iconst dX12_reading_51 ?_
          refine k_aload_n dX12_reading_52 rfl ?_
          refine k_getR dX12_reading_53 f_X12_7 (Nat.le_of_ble_eq_true rfl) sh_o86 (fun _ => rfl) ?_
          refine k_iconst dX12_reading_56 ?_
          refine k_iald (4) dX12_reading_57 (Nat.le_of_ble_eq_true rfl) sh_a87 (by decide) (by omega) (by omega) ?_
          refine k_imul dX12_reading_58 ?_
          refine k_iadd dX12_reading_59 ?_
          refine k_istore (L' := [_, _, _, _, _]) dX12_reading_60 (Nat.le_of_ble_eq_true rfl) rfl ?_
          refine k_aload_n dX12_reading_62 rfl ?_
          refine k_getR dX12_reading_63 f_X12_7 (Nat.le_of_ble_eq_true rfl) sh_o86 (fun _ => rfl) ?_
          refine k_iload dX12_reading_66 rfl ?_
          refine k_iload_n dX12_reading_68 rfl ?_
          refine k_iast (56 + 3 * (G 87 4).toNat) dX12_reading_69 (Nat.le_of_ble_eq_true rfl) sh_a87 (by decide) (by omega) (by omega) ?_
          refine k_aload_n dX12_reading_70 rfl ?_
          refine k_getR dX12_reading_71 f_X12_7 (Nat.le_of_ble_eq_true rfl) sh_o86 (fun _ => rfl) ?_
          refine k_iload dX12_reading_74 rfl ?_
          refine k_iconst dX12_reading_76 ?_
          refine k_iadd dX12_reading_77 ?_
          refine k_iload_n dX12_reading_78 rfl ?_
          refine k_iast (56 + 3 * (G 87 4).toNat + 1) dX12_reading_79 (Nat.le_of_ble_eq_true rfl) sh_a87 (by decide) (by omega) (by omega) ?_
          refine k_aload_n dX12_reading_80 rfl ?_
          refine k_getR dX12_reading_81 f_X12_7 (Nat.le_of_ble_eq_true rfl) sh_o86 (fun _ => rfl) ?_
          refine k_iload dX12_reading_84 rfl ?_
          refine k_iconst dX12_reading_86 ?_
          refine k_iadd dX12_reading_87 ?_
          refine k_iload_n dX12_reading_88 rfl ?_
          refine k_iast (56 + 3 * (G 87 4).toNat + 2) dX12_reading_89 (Nat.le_of_ble_eq_true rfl) sh_a87 (by decide) (by omega) (by omega) ?_
          refine k_aload_n dX12_reading_90 rfl ?_
          refine k_getR dX12_reading_91 f_X12_7 (Nat.le_of_ble_eq_true rfl) sh_o86 (fun _ => rfl) ?_
          refine k_iconst dX12_reading_94 ?_
          refine k_dup2 dX12_reading_95 rfl rfl ?_
          refine k_iald (4) dX12_reading_96 (Nat.le_of_ble_eq_true rfl) sh_a87 (by decide) (by omega) (by omega) ?_
          simp (disch := omega) only [ug_at, ug_nc, ug_np]
          refine k_iconst dX12_reading_97 ?_
          refine k_iadd dX12_reading_98 ?_
          refine k_iast (4) dX12_reading_99 (Nat.le_of_ble_eq_true rfl) sh_a87 (by decide) (by omega) (by omega) ?_
          refine k_aload_n dX12_reading_100 rfl ?_
          refine k_getR dX12_reading_101 f_X12_7 (Nat.le_of_ble_eq_true rfl) sh_o86 (fun _ => rfl) ?_
          refine k_iconst dX12_reading_104 ?_
          refine k_iald (4) dX12_reading_105 (Nat.le_of_ble_eq_true rfl) sh_a87 (by decide) (by omega) (by omega) ?_
          simp (disch := omega) only [ug_at, ug_nc, ug_np]
          exact k_iret dX12_reading_106 rfl ⟨_, rfl, by (try dsimp only); first | (rw [if_neg (by omega)]; exact ⟨rfl, rfl⟩) | (rw [if_pos (by omega)]; rw [if_pos (by omega)]; exact ⟨rfl, rfl⟩) | (rw [if_pos (by omega)]; rw [if_neg (by omega)]; exact ⟨rfl, rfl⟩)⟩
        · skip
          refine k_aload_n dX12_reading_44 rfl ?_
          refine k_callVi [] dX12_reading_45 s_X12_reading_91 rfl m_xFull rfl (Nat.le_of_ble_eq_true rfl) sh_o86 ⟨_, rfl, rfl⟩ (Nat.le_of_ble_eq_true rfl) ?_
          rintro _ _ ⟨rfl, rfl⟩
          exact k_iret dX12_reading_48 rfl ⟨_, rfl, by (try dsimp only); first | (rw [if_neg (by omega)]; exact ⟨rfl, rfl⟩) | (rw [if_pos (by omega)]; rw [if_pos (by omega)]; exact ⟨rfl, rfl⟩) | (rw [if_pos (by omega)]; rw [if_neg (by omega)]; exact ⟨rfl, rfl⟩)⟩
      · skip
        refine k_aload_n dX12_reading_26 rfl ?_
        refine k_bipush dX12_reading_27 (by decide) ?_
        refine k_callVi [.int (iI _)] dX12_reading_29 s_X12_reading_75 rfl m_xBad rfl (Nat.le_of_ble_eq_true rfl) sh_o86 ⟨_, rfl, rfl⟩ (Nat.le_of_ble_eq_true rfl) ?_
        rintro _ _ ⟨rfl, rfl⟩
        exact k_iret dX12_reading_32 rfl ⟨_, rfl, by (try dsimp only); first | (rw [if_neg (by omega)]; exact ⟨rfl, rfl⟩) | (rw [if_pos (by omega)]; rw [if_pos (by omega)]; exact ⟨rfl, rfl⟩) | (rw [if_pos (by omega)]; rw [if_neg (by omega)]; exact ⟨rfl, rfl⟩)⟩
theorem m_xType {G : Mem} (hG : 0 ≤ G 86 15 ∧ G 86 15 ≤ 150) {c : Int} (hc : R32 c) : MP M_X12_type [.ref 86, .int (iI c)] G (vi fun v g => if 0 ≤ c ∧ c ≤ 127 then (if G 86 15 < 150 then (G 86 15 + 1 = v ∧ ug (ug G 98 (G 86 15).toNat c) 86 15 (G 86 15 + 1) = g) else (-4 = v ∧ xF G = g)) else (-2 = v ∧ xB G = g)) := by
  refine MP.of [some (.ref 86), some (.int (iI c))] (plainFor_of_name pn_X12) (Nat.le_of_ble_eq_true rfl) rfl ?_
  refine k_iload_n dX12_type_0 rfl ?_
  refine k_i2l dX12_type_1 ⟨by omega, by omega⟩ ?_
  refine k_lconst dX12_type_2 ?_
  refine k_ldc2 127 dX12_type_3 w_1154 ?_
  refine k_callSi [.long (lI _), .long (lI _), .long (lI _)] dX12_type_6 s_X12_type_65 rfl (m_xIn (by first | assumption | exact ⟨by omega, by omega⟩) (by first | assumption | exact ⟨by omega, by omega⟩) (by first | assumption | exact ⟨by omega, by omega⟩)) rfl (Nat.le_of_ble_eq_true rfl) ?_
  rintro _ _ ⟨rfl, rfl⟩
  refine k_ifb_ne 19 dX12_type_9 (by decide) (fun h9 => ?_) (fun h9 => ?_)
  · skip
    refine k_aload_n dX12_type_19 rfl ?_
    refine k_getI dX12_type_20 f_X12_225 (Nat.le_of_ble_eq_true rfl) sh_o86 (fun _ => rfl) ?_
    try simp (disch := omega) only [ug_at, ug_nc, ug_np, cg_nc]
    refine k_sipush dX12_type_23 (by decide) ?_
    refine k_icmp_ne 34 dX12_type_26 (by decide) ⟨by omega, by omega⟩ ⟨by decide, by decide⟩ (fun h26 => ?_) (fun h26 => ?_)
    · skip
      refine k_aload_n dX12_type_34 rfl ?_
      refine k_getR dX12_type_35 f_X12_48 (Nat.le_of_ble_eq_true rfl) sh_o86 (fun _ => rfl) ?_
      try simp (disch := omega) only [ug_at, ug_nc, ug_np, cg_nc]
      refine k_aload_n dX12_type_38 rfl ?_
      refine k_getI dX12_type_39 f_X12_225 (Nat.le_of_ble_eq_true rfl) sh_o86 (fun _ => rfl) ?_
      try simp (disch := omega) only [ug_at, ug_nc, ug_np, cg_nc]
      refine k_iload_n dX12_type_42 rfl ?_
      refine k_iast (G 86 15).toNat dX12_type_43 (Nat.le_of_ble_eq_true rfl) sh_a98 (by decide) (by omega) (by omega) ?_
      refine k_aload_n dX12_type_44 rfl ?_
      refine k_dup dX12_type_45 rfl ?_
      refine k_getI dX12_type_46 f_X12_225 (Nat.le_of_ble_eq_true rfl) sh_o86 (fun _ => rfl) ?_
      try simp (disch := omega) only [ug_at, ug_nc, ug_np, cg_nc]
      refine k_iconst dX12_type_49 ?_
      refine k_iadd dX12_type_50 ?_
      refine k_putI dX12_type_51 f_X12_225 (Nat.le_of_ble_eq_true rfl) sh_o86 (fun _ => (Nat.le_of_ble_eq_true rfl)) rfl (fun _ => rfl) ?_
      refine k_aload_n dX12_type_54 rfl ?_
      refine k_getI dX12_type_55 f_X12_225 (Nat.le_of_ble_eq_true rfl) sh_o86 (fun _ => rfl) ?_
      try simp (disch := omega) only [ug_at, ug_nc, ug_np, cg_nc]
      exact k_iret dX12_type_58 rfl ⟨_, rfl, by (try dsimp only); first | (rw [if_neg (by omega)]; exact ⟨rfl, rfl⟩) | (rw [if_pos (by omega)]; rw [if_pos (by omega)]; exact ⟨rfl, rfl⟩) | (rw [if_pos (by omega)]; rw [if_neg (by omega)]; exact ⟨rfl, rfl⟩)⟩
    · skip
      refine k_aload_n dX12_type_29 rfl ?_
      refine k_callVi [] dX12_type_30 s_X12_type_91 rfl m_xFull rfl (Nat.le_of_ble_eq_true rfl) sh_o86 ⟨_, rfl, rfl⟩ (Nat.le_of_ble_eq_true rfl) ?_
      rintro _ _ ⟨rfl, rfl⟩
      exact k_iret dX12_type_33 rfl ⟨_, rfl, by (try dsimp only); first | (rw [if_neg (by omega)]; exact ⟨rfl, rfl⟩) | (rw [if_pos (by omega)]; rw [if_pos (by omega)]; exact ⟨rfl, rfl⟩) | (rw [if_pos (by omega)]; rw [if_neg (by omega)]; exact ⟨rfl, rfl⟩)⟩
  · skip
    refine k_aload_n dX12_type_12 rfl ?_
    refine k_bipush dX12_type_13 (by decide) ?_
    refine k_callVi [.int (iI _)] dX12_type_15 s_X12_type_75 rfl m_xBad rfl (Nat.le_of_ble_eq_true rfl) sh_o86 ⟨_, rfl, rfl⟩ (Nat.le_of_ble_eq_true rfl) ?_
    rintro _ _ ⟨rfl, rfl⟩
    exact k_iret dX12_type_18 rfl ⟨_, rfl, by (try dsimp only); first | (rw [if_neg (by omega)]; exact ⟨rfl, rfl⟩) | (rw [if_pos (by omega)]; rw [if_pos (by omega)]; exact ⟨rfl, rfl⟩) | (rw [if_pos (by omega)]; rw [if_neg (by omega)]; exact ⟨rfl, rfl⟩)⟩
theorem lp_xShift {G : Mem} {j2 : Option Value} {Post : Option Value → Mem → Prop} (hk : ∀ j1, RP M_X12_keep 43 [some (.ref 86), j1, j2] [] (ks G 84) Post) : ∀ k : Nat, k ≤ 84 → RP M_X12_keep 13 [some (.ref 86), some (.int (iI (k : Int))), j2] [] (ks G k) Post := by
  refine cnt ?_ (fun k hk2 ih => ?_)
  · skip
    refine k_iload_n dX12_keep_13 rfl ?_
    refine k_bipush dX12_keep_14 (by decide) ?_
    refine k_icmp_ge 43 dX12_keep_16 (by decide) ⟨by omega, by omega⟩ ⟨by decide, by decide⟩ (fun h16 => ?_) (fun h16 => absurd h16 (by omega))
    exact hk _
  · skip
    refine k_iload_n dX12_keep_13 rfl ?_
    refine k_bipush dX12_keep_14 (by decide) ?_
    refine k_icmp_ge 43 dX12_keep_16 (by decide) ⟨by omega, by omega⟩ ⟨by decide, by decide⟩ (fun h16 => absurd h16 (by omega)) (fun h16 => ?_)
    refine k_aload_n dX12_keep_19 rfl ?_
    refine k_getR dX12_keep_20 f_X12_7 (Nat.le_of_ble_eq_true rfl) sh_o86 (fun _ => rfl) ?_
    refine k_bipush dX12_keep_23 (by decide) ?_
    refine k_iload_n dX12_keep_25 rfl ?_
    refine k_iadd dX12_keep_26 ?_
    refine k_aload_n dX12_keep_27 rfl ?_
    refine k_getR dX12_keep_28 f_X12_7 (Nat.le_of_ble_eq_true rfl) sh_o86 (fun _ => rfl) ?_
    refine k_bipush dX12_keep_31 (by decide) ?_
    refine k_iload_n dX12_keep_33 rfl ?_
    refine k_iadd dX12_keep_34 ?_
    refine k_iald (86 + k) dX12_keep_35 (Nat.le_of_ble_eq_true rfl) sh_a87 (by decide) (by omega) (by omega) ?_
    refine k_iast (74 + k) dX12_keep_36 (Nat.le_of_ble_eq_true rfl) sh_a87 (by decide) (by omega) (by omega) ?_
    refine k_iinc (L' := [_, _, _]) dX12_keep_37 rfl (Nat.le_of_ble_eq_true rfl) rfl ?_
    refine k_goto 13 dX12_keep_40 (by decide) ?_
    rw [ks_s]
    exact ih
theorem lp_xSnap {G : Mem} {u : Nat} (hu : u < 8) (h5 : G 87 5 = (u : Int)) : ∀ c : Nat, c ≤ 6 → RP M_X12_keep 66 [some (.ref 86), some (.int (iI (74 + 12 * (u : Int)))), some (.int (iI (c : Int)))] [] (sn G u c) (vv fun g => ug (sn G u 6) 87 5 ((u : Int) + 1) = g) := by
  refine cnt ?_ (fun c hc ih => ?_)
  · have e5 : sn G u 6 87 5 = (u : Int) := by rw [sn_lo (by decide), h5]
    refine k_iload_n dX12_keep_66 rfl ?_
    refine k_bipush dX12_keep_67 (by decide) ?_
    refine k_icmp_ge 112 dX12_keep_69 (by decide) ⟨by omega, by omega⟩ ⟨by decide, by decide⟩ (fun h69 => ?_) (fun h69 => absurd h69 (by omega))
    refine k_aload_n dX12_keep_112 rfl ?_
    refine k_getR dX12_keep_113 f_X12_7 (Nat.le_of_ble_eq_true rfl) sh_o86 (fun _ => rfl) ?_
    refine k_iconst dX12_keep_116 ?_
    refine k_dup2 dX12_keep_117 rfl rfl ?_
    refine k_iald (5) dX12_keep_118 (Nat.le_of_ble_eq_true rfl) sh_a87 (by decide) (by omega) (by omega) ?_
    rw [e5]
    refine k_iconst dX12_keep_119 ?_
    refine k_iadd dX12_keep_120 ?_
    refine k_iast (5) dX12_keep_121 (Nat.le_of_ble_eq_true rfl) sh_a87 (by decide) (by omega) (by omega) ?_
    exact k_ret dX12_keep_122 rfl ⟨rfl, rfl⟩
  · have e2 : sn G u c 87 (6 + 5 * c + 2) = G 87 (6 + 5 * c + 2) := sn_lo (by omega)
    have e4 : sn G u c 87 (6 + 5 * c + 4) = G 87 (6 + 5 * c + 4) := sn_lo (by omega)
    refine k_iload_n dX12_keep_66 rfl ?_
    refine k_bipush dX12_keep_67 (by decide) ?_
    refine k_icmp_ge 112 dX12_keep_69 (by decide) ⟨by omega, by omega⟩ ⟨by decide, by decide⟩ (fun h69 => absurd h69 (by omega)) (fun h69 => ?_)
    refine k_aload_n dX12_keep_72 rfl ?_
    refine k_getR dX12_keep_73 f_X12_7 (Nat.le_of_ble_eq_true rfl) sh_o86 (fun _ => rfl) ?_
    refine k_iload_n dX12_keep_76 rfl ?_
    refine k_iconst dX12_keep_77 ?_
    refine k_iload_n dX12_keep_78 rfl ?_
    refine k_imul dX12_keep_79 ?_
    refine k_iadd dX12_keep_80 ?_
    refine k_aload_n dX12_keep_81 rfl ?_
    refine k_iload_n dX12_keep_82 rfl ?_
    refine k_iconst dX12_keep_83 ?_
    refine k_callVi [.int (iI _), .int (iI _)] dX12_keep_84 s_X12_keep_98 rfl (m_xGet2 (by omega)) rfl (Nat.le_of_ble_eq_true rfl) sh_o86 ⟨_, rfl, rfl⟩ (Nat.le_of_ble_eq_true rfl) ?_
    rintro _ _ ⟨rfl, rfl⟩
    rw [e2]
    refine k_iast (74 + 12 * u + 2 * c) dX12_keep_87 (Nat.le_of_ble_eq_true rfl) sh_a87 (by decide) (by omega) (by omega) ?_
    refine k_aload_n dX12_keep_88 rfl ?_
    refine k_getR dX12_keep_89 f_X12_7 (Nat.le_of_ble_eq_true rfl) sh_o86 (fun _ => rfl) ?_
    refine k_iload_n dX12_keep_92 rfl ?_
    refine k_iconst dX12_keep_93 ?_
    refine k_iload_n dX12_keep_94 rfl ?_
    refine k_imul dX12_keep_95 ?_
    refine k_iadd dX12_keep_96 ?_
    refine k_iconst dX12_keep_97 ?_
    refine k_iadd dX12_keep_98 ?_
    refine k_aload_n dX12_keep_99 rfl ?_
    refine k_iload_n dX12_keep_100 rfl ?_
    refine k_iconst dX12_keep_101 ?_
    refine k_callVi [.int (iI _), .int (iI _)] dX12_keep_102 s_X12_keep_98 rfl (m_xGet4 (by omega)) rfl (Nat.le_of_ble_eq_true rfl) sh_o86 ⟨_, rfl, rfl⟩ (Nat.le_of_ble_eq_true rfl) ?_
    rintro _ _ ⟨rfl, rfl⟩
    rw [ug_np (by omega), e4]
    refine k_iast (74 + 12 * u + 2 * c + 1) dX12_keep_105 (Nat.le_of_ble_eq_true rfl) sh_a87 (by decide) (by omega) (by omega) ?_
    refine k_iinc (L' := [_, _, _]) dX12_keep_106 rfl (Nat.le_of_ble_eq_true rfl) rfl ?_
    refine k_goto 66 dX12_keep_109 (by decide) ?_
    rw [sn_s]
    exact ih
theorem m_xKeep {G : Mem} (h5 : 0 ≤ G 87 5 ∧ G 87 5 ≤ 8) : MP M_X12_keep [.ref 86] G (vv fun g => mKeep G = g) := by
  refine MP.of [some (.ref 86), none, none] (plainFor_of_name pn_X12) (Nat.le_of_ble_eq_true rfl) rfl ?_
  refine k_aload_n dX12_keep_0 rfl ?_
  refine k_getR dX12_keep_1 f_X12_7 (Nat.le_of_ble_eq_true rfl) sh_o86 (fun _ => rfl) ?_
  refine k_iconst dX12_keep_4 ?_
  refine k_iald (5) dX12_keep_5 (Nat.le_of_ble_eq_true rfl) sh_a87 (by decide) (by omega) (by omega) ?_
  refine k_bipush dX12_keep_6 (by decide) ?_
  refine k_icmp_ne 51 dX12_keep_8 (by decide) ⟨by omega, by omega⟩ ⟨by decide, by decide⟩ (fun h8 => ?_) (fun h8 => ?_)
  · skip
    refine k_bipush dX12_keep_51 (by decide) ?_
    refine k_bipush dX12_keep_53 (by decide) ?_
    refine k_aload_n dX12_keep_55 rfl ?_
    refine k_getR dX12_keep_56 f_X12_7 (Nat.le_of_ble_eq_true rfl) sh_o86 (fun _ => rfl) ?_
    refine k_iconst dX12_keep_59 ?_
    refine k_iald (5) dX12_keep_60 (Nat.le_of_ble_eq_true rfl) sh_a87 (by decide) (by omega) (by omega) ?_
    refine k_imul dX12_keep_61 ?_
    refine k_iadd dX12_keep_62 ?_
    refine k_istore_n (L' := [_, _, _]) dX12_keep_63 (Nat.le_of_ble_eq_true rfl) rfl ?_
    refine k_iconst dX12_keep_64 ?_
    refine k_istore_n (L' := [_, _, _]) dX12_keep_65 (Nat.le_of_ble_eq_true rfl) rfl ?_
    rw [show (74 : Int) + 12 * G 87 5 = 74 + 12 * ((G 87 5).toNat : Int) by omega]
    have h := lp_xSnap (G := G) (u := (G 87 5).toNat) (by omega) (by omega) 0 (by omega)
    rw [sn_0] at h
    refine h.mono ?_
    rintro o g ⟨h1, h2⟩
    refine ⟨h1, ?_⟩
    unfold mKeep
    rw [if_neg (by omega), ← h2, show ((G 87 5).toNat : Int) = G 87 5 by omega]
  · skip
    refine k_iconst dX12_keep_11 ?_
    refine k_istore_n (L' := [_, _, _]) dX12_keep_12 (Nat.le_of_ble_eq_true rfl) rfl ?_
    have hs := lp_xShift (G := G) (j2 := none) (Post := vv fun g => mKeep G = g) (fun j1 => ?_) 0 (by omega)
    · rw [ks_0] at hs
      exact hs
    refine k_aload_n dX12_keep_43 rfl ?_
    refine k_getR dX12_keep_44 f_X12_7 (Nat.le_of_ble_eq_true rfl) sh_o86 (fun _ => rfl) ?_
    refine k_iconst dX12_keep_47 ?_
    refine k_bipush dX12_keep_48 (by decide) ?_
    refine k_iast (5) dX12_keep_50 (Nat.le_of_ble_eq_true rfl) sh_a87 (by decide) (by omega) (by omega) ?_
    refine k_bipush dX12_keep_51 (by decide) ?_
    refine k_bipush dX12_keep_53 (by decide) ?_
    refine k_aload_n dX12_keep_55 rfl ?_
    refine k_getR dX12_keep_56 f_X12_7 (Nat.le_of_ble_eq_true rfl) sh_o86 (fun _ => rfl) ?_
    refine k_iconst dX12_keep_59 ?_
    refine k_iald (5) dX12_keep_60 (Nat.le_of_ble_eq_true rfl) sh_a87 (by decide) (by omega) (by omega) ?_
    try simp (disch := omega) only [ug_at, ug_nc, ug_np, cg_nc]
    refine k_imul dX12_keep_61 ?_
    refine k_iadd dX12_keep_62 ?_
    refine k_istore_n (L' := [_, _, _]) dX12_keep_63 (Nat.le_of_ble_eq_true rfl) rfl ?_
    refine k_iconst dX12_keep_64 ?_
    refine k_istore_n (L' := [_, _, _]) dX12_keep_65 (Nat.le_of_ble_eq_true rfl) rfl ?_
    have h := lp_xSnap (G := ug (ks G 84) 87 5 7) (u := 7) (by decide) (by rw [ug_at]; rfl) 0 (by omega)
    rw [sn_0] at h
    refine h.mono ?_
    rintro o g ⟨h1, h2⟩
    refine ⟨h1, ?_⟩
    unfold mKeep
    rw [if_pos (by omega)]
    exact h2
theorem m_xTell2 {G : Mem} (h5 : 0 ≤ G 87 5 ∧ G 87 5 ≤ 8) {c : Nat} (hc : c < 6) {x : Int} : MP M_X12_tellAnew [.ref 86, .int (iI (c : Int)), .int (iI 2), .int (iI x)] G (vi fun v g => G 87 (6 + 5 * c + 2) = v ∧ ug (mKeep G) 87 (6 + 5 * c + 2) x = g) := by
  refine MP.of [some (.ref 86), some (.int (iI (c : Int))), some (.int (iI 2)), some (.int (iI x)), none] (plainFor_of_name pn_X12) (Nat.le_of_ble_eq_true rfl) rfl ?_
  refine k_aload_n dX12_tellAnew_0 rfl ?_
  refine k_iload_n dX12_tellAnew_1 rfl ?_
  refine k_iload_n dX12_tellAnew_2 rfl ?_
  refine k_callVi [.int (iI _), .int (iI _)] dX12_tellAnew_3 s_X12_tellAnew_98 rfl (m_xGet2 (by omega)) rfl (Nat.le_of_ble_eq_true rfl) sh_o86 ⟨_, rfl, rfl⟩ (Nat.le_of_ble_eq_true rfl) ?_
  rintro _ _ ⟨rfl, rfl⟩
  refine k_istore (L' := [_, _, _, _, _]) dX12_tellAnew_6 (Nat.le_of_ble_eq_true rfl) rfl ?_
  refine k_aload_n dX12_tellAnew_8 rfl ?_
  refine k_callVv [] dX12_tellAnew_9 s_X12_tellAnew_102 rfl (m_xKeep h5) rfl (Nat.le_of_ble_eq_true rfl) sh_o86 ⟨_, rfl, rfl⟩ (Nat.le_of_ble_eq_true rfl) ?_
  rintro _ rfl
  refine k_aload_n dX12_tellAnew_12 rfl ?_
  refine k_getR dX12_tellAnew_13 f_X12_7 (Nat.le_of_ble_eq_true rfl) sh_o86 (fun _ => rfl) ?_
  refine k_bipush dX12_tellAnew_16 (by decide) ?_
  refine k_iconst dX12_tellAnew_18 ?_
  refine k_iload_n dX12_tellAnew_19 rfl ?_
  refine k_imul dX12_tellAnew_20 ?_
  refine k_iadd dX12_tellAnew_21 ?_
  refine k_iload_n dX12_tellAnew_22 rfl ?_
  refine k_iadd dX12_tellAnew_23 ?_
  refine k_iload_n dX12_tellAnew_24 rfl ?_
  refine k_iast (6 + 5 * c + 2) dX12_tellAnew_25 (Nat.le_of_ble_eq_true rfl) sh_a87 (by decide) (by omega) (by omega) ?_
  refine k_iload dX12_tellAnew_26 rfl ?_
  exact k_iret dX12_tellAnew_28 rfl ⟨_, rfl, rfl, rfl⟩
theorem m_xTell4 {G : Mem} (h5 : 0 ≤ G 87 5 ∧ G 87 5 ≤ 8) {c : Nat} (hc : c < 6) {x : Int} : MP M_X12_tellAnew [.ref 86, .int (iI (c : Int)), .int (iI 4), .int (iI x)] G (vi fun v g => G 87 (6 + 5 * c + 4) = v ∧ ug (mKeep G) 87 (6 + 5 * c + 4) x = g) := by
  refine MP.of [some (.ref 86), some (.int (iI (c : Int))), some (.int (iI 4)), some (.int (iI x)), none] (plainFor_of_name pn_X12) (Nat.le_of_ble_eq_true rfl) rfl ?_
  refine k_aload_n dX12_tellAnew_0 rfl ?_
  refine k_iload_n dX12_tellAnew_1 rfl ?_
  refine k_iload_n dX12_tellAnew_2 rfl ?_
  refine k_callVi [.int (iI _), .int (iI _)] dX12_tellAnew_3 s_X12_tellAnew_98 rfl (m_xGet4 (by omega)) rfl (Nat.le_of_ble_eq_true rfl) sh_o86 ⟨_, rfl, rfl⟩ (Nat.le_of_ble_eq_true rfl) ?_
  rintro _ _ ⟨rfl, rfl⟩
  refine k_istore (L' := [_, _, _, _, _]) dX12_tellAnew_6 (Nat.le_of_ble_eq_true rfl) rfl ?_
  refine k_aload_n dX12_tellAnew_8 rfl ?_
  refine k_callVv [] dX12_tellAnew_9 s_X12_tellAnew_102 rfl (m_xKeep h5) rfl (Nat.le_of_ble_eq_true rfl) sh_o86 ⟨_, rfl, rfl⟩ (Nat.le_of_ble_eq_true rfl) ?_
  rintro _ rfl
  refine k_aload_n dX12_tellAnew_12 rfl ?_
  refine k_getR dX12_tellAnew_13 f_X12_7 (Nat.le_of_ble_eq_true rfl) sh_o86 (fun _ => rfl) ?_
  refine k_bipush dX12_tellAnew_16 (by decide) ?_
  refine k_iconst dX12_tellAnew_18 ?_
  refine k_iload_n dX12_tellAnew_19 rfl ?_
  refine k_imul dX12_tellAnew_20 ?_
  refine k_iadd dX12_tellAnew_21 ?_
  refine k_iload_n dX12_tellAnew_22 rfl ?_
  refine k_iadd dX12_tellAnew_23 ?_
  refine k_iload_n dX12_tellAnew_24 rfl ?_
  refine k_iast (6 + 5 * c + 4) dX12_tellAnew_25 (Nat.le_of_ble_eq_true rfl) sh_a87 (by decide) (by omega) (by omega) ?_
  refine k_iload dX12_tellAnew_26 rfl ?_
  exact k_iret dX12_tellAnew_28 rfl ⟨_, rfl, rfl, rfl⟩
theorem m_xStand {G : Mem} (h2 : 0 ≤ G 87 0 ∧ G 87 0 ≤ 6) (hu : 0 ≤ G 87 5 ∧ G 87 5 ≤ 8) {c x : Int} (hc : R32 c) (hx : R32 x) : MP M_X12_stand [.ref 86, .int (iI c), .int (iI x)] G (vi fun v g => if (0 ≤ c ∧ c ≤ G 87 0 - 1) ∧ (0 ≤ x ∧ x ≤ 47) then (G 87 (6 + 5 * c.toNat + 2) = v ∧ ug (mKeep G) 87 (6 + 5 * c.toNat + 2) x = g) else (-2 = v ∧ xB G = g)) := by
  refine MP.of [some (.ref 86), some (.int (iI c)), some (.int (iI x))] (plainFor_of_name pn_X12) (Nat.le_of_ble_eq_true rfl) rfl ?_
  refine k_aload_n dX12_stand_0 rfl ?_
  refine k_iload_n dX12_stand_1 rfl ?_
  refine k_callVi [.int (iI _)] dX12_stand_2 s_X12_stand_105 rfl (m_xIsChild (by omega) (by assumption)) rfl (Nat.le_of_ble_eq_true rfl) sh_o86 ⟨_, rfl, rfl⟩ (Nat.le_of_ble_eq_true rfl) ?_
  rintro _ _ ⟨rfl, rfl⟩
  refine k_ifb_eq 25 dX12_stand_5 (by decide) (fun h5 => ?_) (fun h5 => ?_)
  · skip
    refine k_aload_n dX12_stand_25 rfl ?_
    refine k_bipush dX12_stand_26 (by decide) ?_
    refine k_callVi [.int (iI _)] dX12_stand_28 s_X12_stand_75 rfl m_xBad rfl (Nat.le_of_ble_eq_true rfl) sh_o86 ⟨_, rfl, rfl⟩ (Nat.le_of_ble_eq_true rfl) ?_
    rintro _ _ ⟨rfl, rfl⟩
    exact k_iret dX12_stand_31 rfl ⟨_, rfl, by (try dsimp only); first | (rw [if_pos (by omega)]; exact ⟨rfl, rfl⟩) | (rw [if_neg (by omega)]; exact ⟨rfl, rfl⟩)⟩
  · skip
    refine k_iload_n dX12_stand_8 rfl ?_
    refine k_callSi [.int (iI _)] dX12_stand_9 s_X12_stand_83 rfl (m_xisCell (by first | assumption | exact ⟨by omega, by omega⟩)) rfl (Nat.le_of_ble_eq_true rfl) ?_
    rintro _ _ ⟨rfl, rfl⟩
    refine k_ifb_eq 25 dX12_stand_12 (by decide) (fun h12 => ?_) (fun h12 => ?_)
    · skip
      refine k_aload_n dX12_stand_25 rfl ?_
      refine k_bipush dX12_stand_26 (by decide) ?_
      refine k_callVi [.int (iI _)] dX12_stand_28 s_X12_stand_75 rfl m_xBad rfl (Nat.le_of_ble_eq_true rfl) sh_o86 ⟨_, rfl, rfl⟩ (Nat.le_of_ble_eq_true rfl) ?_
      rintro _ _ ⟨rfl, rfl⟩
      exact k_iret dX12_stand_31 rfl ⟨_, rfl, by (try dsimp only); first | (rw [if_pos (by omega)]; exact ⟨rfl, rfl⟩) | (rw [if_neg (by omega)]; exact ⟨rfl, rfl⟩)⟩
    · skip
      refine k_aload_n dX12_stand_15 rfl ?_
      refine k_iload_n dX12_stand_16 rfl ?_
      refine k_iconst dX12_stand_17 ?_
      refine k_iload_n dX12_stand_18 rfl ?_
      refine k_callVi [.int (iI _), .int (iI _), .int (iI _)] dX12_stand_19 s_X12_stand_108 rfl (by rw [show c = (c.toNat : Int) by omega]; exact m_xTell2 hu (by omega)) rfl (Nat.le_of_ble_eq_true rfl) sh_o86 ⟨_, rfl, rfl⟩ (Nat.le_of_ble_eq_true rfl) ?_
      rintro _ _ ⟨rfl, rfl⟩
      refine k_goto 31 dX12_stand_22 (by decide) ?_
      exact k_iret dX12_stand_31 rfl ⟨_, rfl, by (try dsimp only); first | (rw [if_pos (by omega)]; exact ⟨rfl, rfl⟩) | (rw [if_neg (by omega)]; exact ⟨rfl, rfl⟩)⟩
theorem m_xBed {G : Mem} (h2 : 0 ≤ G 87 0 ∧ G 87 0 ≤ 6) (hu : 0 ≤ G 87 5 ∧ G 87 5 ≤ 8) {c x : Int} (hc : R32 c) (hx : R32 x) : MP M_X12_bed [.ref 86, .int (iI c), .int (iI x)] G (vi fun v g => if (0 ≤ c ∧ c ≤ G 87 0 - 1) ∧ (0 ≤ x ∧ x ≤ 60) then (G 87 (6 + 5 * c.toNat + 4) = v ∧ ug (mKeep G) 87 (6 + 5 * c.toNat + 4) x = g) else (-2 = v ∧ xB G = g)) := by
  refine MP.of [some (.ref 86), some (.int (iI c)), some (.int (iI x))] (plainFor_of_name pn_X12) (Nat.le_of_ble_eq_true rfl) rfl ?_
  refine k_aload_n dX12_bed_0 rfl ?_
  refine k_iload_n dX12_bed_1 rfl ?_
  refine k_callVi [.int (iI _)] dX12_bed_2 s_X12_bed_105 rfl (m_xIsChild (by omega) (by assumption)) rfl (Nat.le_of_ble_eq_true rfl) sh_o86 ⟨_, rfl, rfl⟩ (Nat.le_of_ble_eq_true rfl) ?_
  rintro _ _ ⟨rfl, rfl⟩
  refine k_ifb_eq 30 dX12_bed_5 (by decide) (fun h5 => ?_) (fun h5 => ?_)
  · skip
    refine k_aload_n dX12_bed_30 rfl ?_
    refine k_bipush dX12_bed_31 (by decide) ?_
    refine k_callVi [.int (iI _)] dX12_bed_33 s_X12_bed_75 rfl m_xBad rfl (Nat.le_of_ble_eq_true rfl) sh_o86 ⟨_, rfl, rfl⟩ (Nat.le_of_ble_eq_true rfl) ?_
    rintro _ _ ⟨rfl, rfl⟩
    exact k_iret dX12_bed_36 rfl ⟨_, rfl, by (try dsimp only); first | (rw [if_pos (by omega)]; exact ⟨rfl, rfl⟩) | (rw [if_neg (by omega)]; exact ⟨rfl, rfl⟩)⟩
  · skip
    refine k_iload_n dX12_bed_8 rfl ?_
    refine k_i2l dX12_bed_9 ⟨by omega, by omega⟩ ?_
    refine k_lconst dX12_bed_10 ?_
    refine k_ldc2 60 dX12_bed_11 w_932 ?_
    refine k_callSi [.long (lI _), .long (lI _), .long (lI _)] dX12_bed_14 s_X12_bed_65 rfl (m_xIn (by first | assumption | exact ⟨by omega, by omega⟩) (by first | assumption | exact ⟨by omega, by omega⟩) (by first | assumption | exact ⟨by omega, by omega⟩)) rfl (Nat.le_of_ble_eq_true rfl) ?_
    rintro _ _ ⟨rfl, rfl⟩
    refine k_ifb_eq 30 dX12_bed_17 (by decide) (fun h17 => ?_) (fun h17 => ?_)
    · skip
      refine k_aload_n dX12_bed_30 rfl ?_
      refine k_bipush dX12_bed_31 (by decide) ?_
      refine k_callVi [.int (iI _)] dX12_bed_33 s_X12_bed_75 rfl m_xBad rfl (Nat.le_of_ble_eq_true rfl) sh_o86 ⟨_, rfl, rfl⟩ (Nat.le_of_ble_eq_true rfl) ?_
      rintro _ _ ⟨rfl, rfl⟩
      exact k_iret dX12_bed_36 rfl ⟨_, rfl, by (try dsimp only); first | (rw [if_pos (by omega)]; exact ⟨rfl, rfl⟩) | (rw [if_neg (by omega)]; exact ⟨rfl, rfl⟩)⟩
    · skip
      refine k_aload_n dX12_bed_20 rfl ?_
      refine k_iload_n dX12_bed_21 rfl ?_
      refine k_iconst dX12_bed_22 ?_
      refine k_iload_n dX12_bed_23 rfl ?_
      refine k_callVi [.int (iI _), .int (iI _), .int (iI _)] dX12_bed_24 s_X12_bed_108 rfl (by rw [show c = (c.toNat : Int) by omega]; exact m_xTell4 hu (by omega)) rfl (Nat.le_of_ble_eq_true rfl) sh_o86 ⟨_, rfl, rfl⟩ (Nat.le_of_ble_eq_true rfl) ?_
      rintro _ _ ⟨rfl, rfl⟩
      refine k_goto 36 dX12_bed_27 (by decide) ?_
      exact k_iret dX12_bed_36 rfl ⟨_, rfl, by (try dsimp only); first | (rw [if_pos (by omega)]; exact ⟨rfl, rfl⟩) | (rw [if_neg (by omega)]; exact ⟨rfl, rfl⟩)⟩
theorem lp_xUndo {G : Mem} {u : Nat} (hu : u < 8) : ∀ c : Nat, c ≤ 6 → RP M_X12_undo 39 [some (.ref 86), some (.int (iI (74 + 12 * (u : Int)))), some (.int (iI (c : Int)))] [] (ud G u c) (vi fun v g => G 87 5 = v ∧ ud G u 6 = g) := by
  refine cnt ?_ (fun c hc ih => ?_)
  · skip
    refine k_iload_n dX12_undo_39 rfl ?_
    refine k_bipush dX12_undo_40 (by decide) ?_
    refine k_icmp_ge 99 dX12_undo_42 (by decide) ⟨by omega, by omega⟩ ⟨by decide, by decide⟩ (fun h42 => ?_) (fun h42 => absurd h42 (by omega))
    refine k_aload_n dX12_undo_99 rfl ?_
    refine k_getR dX12_undo_100 f_X12_7 (Nat.le_of_ble_eq_true rfl) sh_o86 (fun _ => rfl) ?_
    refine k_iconst dX12_undo_103 ?_
    refine k_iald (5) dX12_undo_104 (Nat.le_of_ble_eq_true rfl) sh_a87 (by decide) (by omega) (by omega) ?_
    exact k_iret dX12_undo_105 rfl ⟨_, rfl, ud_5.symm, rfl⟩
  · have e2 : ud G u c 87 (74 + 12 * u + 2 * c) = G 87 (74 + 12 * u + 2 * c) := ud_hi (by omega) (by omega)
    have e4 : ud G u c 87 (74 + 12 * u + 2 * c + 1) = G 87 (74 + 12 * u + 2 * c + 1) := ud_hi (by omega) (by omega)
    refine k_iload_n dX12_undo_39 rfl ?_
    refine k_bipush dX12_undo_40 (by decide) ?_
    refine k_icmp_ge 99 dX12_undo_42 (by decide) ⟨by omega, by omega⟩ ⟨by decide, by decide⟩ (fun h42 => absurd h42 (by omega)) (fun h42 => ?_)
    refine k_aload_n dX12_undo_45 rfl ?_
    refine k_getR dX12_undo_46 f_X12_7 (Nat.le_of_ble_eq_true rfl) sh_o86 (fun _ => rfl) ?_
    refine k_bipush dX12_undo_49 (by decide) ?_
    refine k_iconst dX12_undo_51 ?_
    refine k_iload_n dX12_undo_52 rfl ?_
    refine k_imul dX12_undo_53 ?_
    refine k_iadd dX12_undo_54 ?_
    refine k_iconst dX12_undo_55 ?_
    refine k_iadd dX12_undo_56 ?_
    refine k_aload_n dX12_undo_57 rfl ?_
    refine k_getR dX12_undo_58 f_X12_7 (Nat.le_of_ble_eq_true rfl) sh_o86 (fun _ => rfl) ?_
    refine k_iload_n dX12_undo_61 rfl ?_
    refine k_iconst dX12_undo_62 ?_
    refine k_iload_n dX12_undo_63 rfl ?_
    refine k_imul dX12_undo_64 ?_
    refine k_iadd dX12_undo_65 ?_
    refine k_iald (74 + 12 * u + 2 * c) dX12_undo_66 (Nat.le_of_ble_eq_true rfl) sh_a87 (by decide) (by omega) (by omega) ?_
    rw [e2]
    refine k_iast (6 + 5 * c + 2) dX12_undo_67 (Nat.le_of_ble_eq_true rfl) sh_a87 (by decide) (by omega) (by omega) ?_
    refine k_aload_n dX12_undo_68 rfl ?_
    refine k_getR dX12_undo_69 f_X12_7 (Nat.le_of_ble_eq_true rfl) sh_o86 (fun _ => rfl) ?_
    refine k_bipush dX12_undo_72 (by decide) ?_
    refine k_iconst dX12_undo_74 ?_
    refine k_iload_n dX12_undo_75 rfl ?_
    refine k_imul dX12_undo_76 ?_
    refine k_iadd dX12_undo_77 ?_
    refine k_iconst dX12_undo_78 ?_
    refine k_iadd dX12_undo_79 ?_
    refine k_aload_n dX12_undo_80 rfl ?_
    refine k_getR dX12_undo_81 f_X12_7 (Nat.le_of_ble_eq_true rfl) sh_o86 (fun _ => rfl) ?_
    refine k_iload_n dX12_undo_84 rfl ?_
    refine k_iconst dX12_undo_85 ?_
    refine k_iload_n dX12_undo_86 rfl ?_
    refine k_imul dX12_undo_87 ?_
    refine k_iadd dX12_undo_88 ?_
    refine k_iconst dX12_undo_89 ?_
    refine k_iadd dX12_undo_90 ?_
    refine k_iald (74 + 12 * u + 2 * c + 1) dX12_undo_91 (Nat.le_of_ble_eq_true rfl) sh_a87 (by decide) (by omega) (by omega) ?_
    rw [ug_np (by omega), e4]
    refine k_iast (6 + 5 * c + 4) dX12_undo_92 (Nat.le_of_ble_eq_true rfl) sh_a87 (by decide) (by omega) (by omega) ?_
    refine k_iinc (L' := [_, _, _]) dX12_undo_93 rfl (Nat.le_of_ble_eq_true rfl) rfl ?_
    refine k_goto 39 dX12_undo_96 (by decide) ?_
    rw [ud_s]
    exact ih
theorem m_xUndo {G : Mem} (h5 : 0 ≤ G 87 5 ∧ G 87 5 ≤ 8) : MP M_X12_undo [.ref 86] G (vi fun v g => if 0 < G 87 5 then (G 87 5 - 1 = v ∧ mUndo G = g) else (-3 = v ∧ xN G = g)) := by
  refine MP.of [some (.ref 86), none, none] (plainFor_of_name pn_X12) (Nat.le_of_ble_eq_true rfl) rfl ?_
  refine k_aload_n dX12_undo_0 rfl ?_
  refine k_getR dX12_undo_1 f_X12_7 (Nat.le_of_ble_eq_true rfl) sh_o86 (fun _ => rfl) ?_
  refine k_iconst dX12_undo_4 ?_
  refine k_iald (5) dX12_undo_5 (Nat.le_of_ble_eq_true rfl) sh_a87 (by decide) (by omega) (by omega) ?_
  refine k_if_ne 14 dX12_undo_6 (by decide) ⟨by omega, by omega⟩ (fun h6 => ?_) (fun h6 => ?_)
  · skip
    refine k_aload_n dX12_undo_14 rfl ?_
    refine k_getR dX12_undo_15 f_X12_7 (Nat.le_of_ble_eq_true rfl) sh_o86 (fun _ => rfl) ?_
    refine k_iconst dX12_undo_18 ?_
    refine k_dup2 dX12_undo_19 rfl rfl ?_
    refine k_iald (5) dX12_undo_20 (Nat.le_of_ble_eq_true rfl) sh_a87 (by decide) (by omega) (by omega) ?_
    refine k_iconst dX12_undo_21 ?_
    refine k_isub dX12_undo_22 ?_
    refine k_iast (5) dX12_undo_23 (Nat.le_of_ble_eq_true rfl) sh_a87 (by decide) (by omega) (by omega) ?_
    refine k_bipush dX12_undo_24 (by decide) ?_
    refine k_bipush dX12_undo_26 (by decide) ?_
    refine k_aload_n dX12_undo_28 rfl ?_
    refine k_getR dX12_undo_29 f_X12_7 (Nat.le_of_ble_eq_true rfl) sh_o86 (fun _ => rfl) ?_
    refine k_iconst dX12_undo_32 ?_
    refine k_iald (5) dX12_undo_33 (Nat.le_of_ble_eq_true rfl) sh_a87 (by decide) (by omega) (by omega) ?_
    try simp (disch := omega) only [ug_at, ug_nc, ug_np, cg_nc]
    refine k_imul dX12_undo_34 ?_
    refine k_iadd dX12_undo_35 ?_
    refine k_istore_n (L' := [_, _, _]) dX12_undo_36 (Nat.le_of_ble_eq_true rfl) rfl ?_
    refine k_iconst dX12_undo_37 ?_
    refine k_istore_n (L' := [_, _, _]) dX12_undo_38 (Nat.le_of_ble_eq_true rfl) rfl ?_
    rw [show (74 : Int) + 12 * (G 87 5 - 1) = 74 + 12 * ((G 87 5 - 1).toNat : Int) by omega]
    have h := lp_xUndo (G := ug G 87 5 (G 87 5 - 1)) (u := (G 87 5 - 1).toNat) (by omega) 0 (by omega)
    rw [ud_0] at h
    refine h.mono ?_
    rintro o g ⟨v, h1, h2, h3⟩
    rw [ug_at] at h2
    exact ⟨v, h1, by dsimp only; rw [if_pos (by omega)]; exact ⟨h2, h3⟩⟩
  · skip
    refine k_aload_n dX12_undo_9 rfl ?_
    refine k_callVi [] dX12_undo_10 s_X12_undo_112 rfl m_xNo rfl (Nat.le_of_ble_eq_true rfl) sh_o86 ⟨_, rfl, rfl⟩ (Nat.le_of_ble_eq_true rfl) ?_
    rintro _ _ ⟨rfl, rfl⟩
    exact k_iret dX12_undo_13 rfl ⟨_, rfl, by (try dsimp only); first | (rw [if_pos (by omega)]; exact ⟨rfl, rfl⟩) | (rw [if_neg (by omega)]; exact ⟨rfl, rfl⟩)⟩
theorem lp_xImage {G : Mem} {i : Nat} (hi : i < 2) : ∀ k : Nat, k ≤ 170 → RP M_X12_image 19 [some (.ref 86), some (.int (iI (i : Int))), some (.int (iI (k : Int)))] [] (ci G i k) (vi fun v g => 1 = v ∧ ug (ci G i 170) 89 i 1 = g) := by
  refine cnt ?_ (fun k hk ih => ?_)
  · skip
    refine k_iload_n dX12_image_19 rfl ?_
    refine k_sipush dX12_image_20 (by decide) ?_
    refine k_icmp_ge 50 dX12_image_23 (by decide) ⟨by omega, by omega⟩ ⟨by decide, by decide⟩ (fun h23 => ?_) (fun h23 => absurd h23 (by omega))
    refine k_aload_n dX12_image_50 rfl ?_
    refine k_getR dX12_image_51 f_X12_16 (Nat.le_of_ble_eq_true rfl) sh_o86 (fun _ => rfl) ?_
    refine k_iload_n dX12_image_54 rfl ?_
    refine k_iconst dX12_image_55 ?_
    refine k_zast i dX12_image_56 (Nat.le_of_ble_eq_true rfl) sh_a89 (by decide) (by omega) (by omega) (Or.inr rfl) ?_
    refine k_iconst dX12_image_57 ?_
    exact k_iret dX12_image_58 rfl ⟨_, rfl, rfl, rfl⟩
  · skip
    refine k_iload_n dX12_image_19 rfl ?_
    refine k_sipush dX12_image_20 (by decide) ?_
    refine k_icmp_ge 50 dX12_image_23 (by decide) ⟨by omega, by omega⟩ ⟨by decide, by decide⟩ (fun h23 => absurd h23 (by omega)) (fun h23 => ?_)
    refine k_aload_n dX12_image_26 rfl ?_
    refine k_getR dX12_image_27 f_X12_13 (Nat.le_of_ble_eq_true rfl) sh_o86 (fun _ => rfl) ?_
    refine k_sipush dX12_image_30 (by decide) ?_
    refine k_iload_n dX12_image_33 rfl ?_
    refine k_imul dX12_image_34 ?_
    refine k_iload_n dX12_image_35 rfl ?_
    refine k_iadd dX12_image_36 ?_
    refine k_aload_n dX12_image_37 rfl ?_
    refine k_getR dX12_image_38 f_X12_7 (Nat.le_of_ble_eq_true rfl) sh_o86 (fun _ => rfl) ?_
    refine k_iload_n dX12_image_41 rfl ?_
    refine k_iald k dX12_image_42 (Nat.le_of_ble_eq_true rfl) sh_a87 (by decide) (by omega) (by omega) ?_
    refine k_iast (170 * i + k) dX12_image_43 (Nat.le_of_ble_eq_true rfl) sh_a88 (by decide) (by omega) (by omega) ?_
    refine k_iinc (L' := [_, _, _]) dX12_image_44 rfl (Nat.le_of_ble_eq_true rfl) rfl ?_
    refine k_goto 19 dX12_image_47 (by decide) ?_
    rw [ci_s]
    exact ih
theorem m_xImage {G : Mem} {i : Int} (hi : R32 i) : MP M_X12_image [.ref 86, .int (iI i)] G (vi fun v g => if 0 ≤ i ∧ i ≤ 1 then (1 = v ∧ ug (ci G i.toNat 170) 89 i.toNat 1 = g) else (-2 = v ∧ xB G = g)) := by
  refine MP.of [some (.ref 86), some (.int (iI i)), none] (plainFor_of_name pn_X12) (Nat.le_of_ble_eq_true rfl) rfl ?_
  refine k_iload_n dX12_image_0 rfl ?_
  refine k_i2l dX12_image_1 ⟨by omega, by omega⟩ ?_
  refine k_lconst dX12_image_2 ?_
  refine k_lconst dX12_image_3 ?_
  refine k_callSi [.long (lI _), .long (lI _), .long (lI _)] dX12_image_4 s_X12_image_65 rfl (m_xIn (by first | assumption | exact ⟨by omega, by omega⟩) (by first | assumption | exact ⟨by omega, by omega⟩) (by first | assumption | exact ⟨by omega, by omega⟩)) rfl (Nat.le_of_ble_eq_true rfl) ?_
  rintro _ _ ⟨rfl, rfl⟩
  refine k_ifb_ne 17 dX12_image_7 (by decide) (fun h7 => ?_) (fun h7 => ?_)
  · skip
    refine k_iconst dX12_image_17 ?_
    refine k_istore_n (L' := [_, _, _]) dX12_image_18 (Nat.le_of_ble_eq_true rfl) rfl ?_
    have h := lp_xImage (G := G) (i := i.toNat) (by omega) 0 (by omega)
    rw [ci_0, show (i.toNat : Int) = i by omega] at h
    refine h.mono ?_
    rintro o g ⟨v, h1, h2⟩
    exact ⟨v, h1, by dsimp only; rw [if_pos (by omega)]; exact h2⟩
  · skip
    refine k_aload_n dX12_image_10 rfl ?_
    refine k_bipush dX12_image_11 (by decide) ?_
    refine k_callVi [.int (iI _)] dX12_image_13 s_X12_image_75 rfl m_xBad rfl (Nat.le_of_ble_eq_true rfl) sh_o86 ⟨_, rfl, rfl⟩ (Nat.le_of_ble_eq_true rfl) ?_
    rintro _ _ ⟨rfl, rfl⟩
    exact k_iret dX12_image_16 rfl ⟨_, rfl, by (try dsimp only); first | (rw [if_pos (by omega)]; exact ⟨rfl, rfl⟩) | (rw [if_neg (by omega)]; exact ⟨rfl, rfl⟩)⟩
theorem lp_xFrom {G : Mem} {i : Nat} (hi : i < 2) : ∀ k : Nat, k ≤ 170 → RP M_X12_from 33 [some (.ref 86), some (.int (iI (i : Int))), some (.int (iI (k : Int)))] [] (cf G i k) (vi fun v g => 1 = v ∧ cf G i 170 = g) := by
  refine cnt ?_ (fun k hk ih => ?_)
  · skip
    refine k_iload_n dX12_from_33 rfl ?_
    refine k_sipush dX12_from_34 (by decide) ?_
    refine k_icmp_ge 64 dX12_from_37 (by decide) ⟨by omega, by omega⟩ ⟨by decide, by decide⟩ (fun h37 => ?_) (fun h37 => absurd h37 (by omega))
    refine k_iconst dX12_from_64 ?_
    exact k_iret dX12_from_65 rfl ⟨_, rfl, rfl, rfl⟩
  · skip
    refine k_iload_n dX12_from_33 rfl ?_
    refine k_sipush dX12_from_34 (by decide) ?_
    refine k_icmp_ge 64 dX12_from_37 (by decide) ⟨by omega, by omega⟩ ⟨by decide, by decide⟩ (fun h37 => absurd h37 (by omega)) (fun h37 => ?_)
    refine k_aload_n dX12_from_40 rfl ?_
    refine k_getR dX12_from_41 f_X12_7 (Nat.le_of_ble_eq_true rfl) sh_o86 (fun _ => rfl) ?_
    refine k_iload_n dX12_from_44 rfl ?_
    refine k_aload_n dX12_from_45 rfl ?_
    refine k_getR dX12_from_46 f_X12_13 (Nat.le_of_ble_eq_true rfl) sh_o86 (fun _ => rfl) ?_
    refine k_sipush dX12_from_49 (by decide) ?_
    refine k_iload_n dX12_from_52 rfl ?_
    refine k_imul dX12_from_53 ?_
    refine k_iload_n dX12_from_54 rfl ?_
    refine k_iadd dX12_from_55 ?_
    refine k_iald (170 * i + k) dX12_from_56 (Nat.le_of_ble_eq_true rfl) sh_a88 (by decide) (by omega) (by omega) ?_
    refine k_iast k dX12_from_57 (Nat.le_of_ble_eq_true rfl) sh_a87 (by decide) (by omega) (by omega) ?_
    refine k_iinc (L' := [_, _, _]) dX12_from_58 rfl (Nat.le_of_ble_eq_true rfl) rfl ?_
    refine k_goto 33 dX12_from_61 (by decide) ?_
    rw [cf_s]
    exact ih
theorem m_xFrom {G : Mem} {i : Int} (hi : R32 i) (h89 : ∀ j, G 89 j = 0 ∨ G 89 j = 1) : MP M_X12_from [.ref 86, .int (iI i)] G (vi fun v g => if 0 ≤ i ∧ i ≤ 1 then (if G 89 i.toNat = 0 then (-3 = v ∧ xN G = g) else (1 = v ∧ cf G i.toNat 170 = g)) else (-2 = v ∧ xB G = g)) := by
  refine MP.of [some (.ref 86), some (.int (iI i)), none] (plainFor_of_name pn_X12) (Nat.le_of_ble_eq_true rfl) rfl ?_
  refine k_iload_n dX12_from_0 rfl ?_
  refine k_i2l dX12_from_1 ⟨by omega, by omega⟩ ?_
  refine k_lconst dX12_from_2 ?_
  refine k_lconst dX12_from_3 ?_
  refine k_callSi [.long (lI _), .long (lI _), .long (lI _)] dX12_from_4 s_X12_from_65 rfl (m_xIn (by first | assumption | exact ⟨by omega, by omega⟩) (by first | assumption | exact ⟨by omega, by omega⟩) (by first | assumption | exact ⟨by omega, by omega⟩)) rfl (Nat.le_of_ble_eq_true rfl) ?_
  rintro _ _ ⟨rfl, rfl⟩
  refine k_ifb_ne 17 dX12_from_7 (by decide) (fun h7 => ?_) (fun h7 => ?_)
  · skip
    refine k_aload_n dX12_from_17 rfl ?_
    refine k_getR dX12_from_18 f_X12_16 (Nat.le_of_ble_eq_true rfl) sh_o86 (fun _ => rfl) ?_
    refine k_iload_n dX12_from_21 rfl ?_
    refine k_zald i.toNat dX12_from_22 (Nat.le_of_ble_eq_true rfl) sh_a89 (by decide) (by omega) (by omega) ?_
    have hz := h89 i.toNat
    refine k_if_ne 31 dX12_from_23 (by decide) ⟨by omega, by omega⟩ (fun h23 => ?_) (fun h23 => ?_)
    · skip
      refine k_iconst dX12_from_31 ?_
      refine k_istore_n (L' := [_, _, _]) dX12_from_32 (Nat.le_of_ble_eq_true rfl) rfl ?_
      have h := lp_xFrom (G := G) (i := i.toNat) (by omega) 0 (by omega)
      rw [cf_0, show (i.toNat : Int) = i by omega] at h
      refine h.mono ?_
      rintro o g ⟨v, h1, h2⟩
      exact ⟨v, h1, by dsimp only; rw [if_pos (by omega), if_neg (by omega)]; exact h2⟩
    · skip
      refine k_aload_n dX12_from_26 rfl ?_
      refine k_callVi [] dX12_from_27 s_X12_from_112 rfl m_xNo rfl (Nat.le_of_ble_eq_true rfl) sh_o86 ⟨_, rfl, rfl⟩ (Nat.le_of_ble_eq_true rfl) ?_
      rintro _ _ ⟨rfl, rfl⟩
      exact k_iret dX12_from_30 rfl ⟨_, rfl, by (try dsimp only); first | (rw [if_neg (by omega)]; exact ⟨rfl, rfl⟩) | (rw [if_pos (by omega)]; rw [if_pos (by omega)]; exact ⟨rfl, rfl⟩) | (rw [if_pos (by omega)]; rw [if_neg (by omega)]; exact ⟨rfl, rfl⟩)⟩
  · skip
    refine k_aload_n dX12_from_10 rfl ?_
    refine k_bipush dX12_from_11 (by decide) ?_
    refine k_callVi [.int (iI _)] dX12_from_13 s_X12_from_75 rfl m_xBad rfl (Nat.le_of_ble_eq_true rfl) sh_o86 ⟨_, rfl, rfl⟩ (Nat.le_of_ble_eq_true rfl) ?_
    rintro _ _ ⟨rfl, rfl⟩
    exact k_iret dX12_from_16 rfl ⟨_, rfl, by (try dsimp only); first | (rw [if_neg (by omega)]; exact ⟨rfl, rfl⟩) | (rw [if_pos (by omega)]; rw [if_pos (by omega)]; exact ⟨rfl, rfl⟩) | (rw [if_pos (by omega)]; rw [if_neg (by omega)]; exact ⟨rfl, rfl⟩)⟩
theorem m_xStatus {G : Mem} {w : Int} (hw : R32 w) : MP M_X12_status [.ref 86, .int (iI w)] G (vi fun v g => if 0 ≤ w ∧ w ≤ 2 then (G 90 w.toNat = v ∧ G = g) else (-1 = v ∧ xB G = g)) := by
  refine MP.of [some (.ref 86), some (.int (iI w))] (plainFor_of_name pn_X12) (Nat.le_of_ble_eq_true rfl) rfl ?_
  refine k_iload_n dX12_status_0 rfl ?_
  refine k_i2l dX12_status_1 ⟨by omega, by omega⟩ ?_
  refine k_lconst dX12_status_2 ?_
  refine k_ldc2 2 dX12_status_3 w_905 ?_
  refine k_callSi [.long (lI _), .long (lI _), .long (lI _)] dX12_status_6 s_X12_status_65 rfl (m_xIn (by first | assumption | exact ⟨by omega, by omega⟩) (by first | assumption | exact ⟨by omega, by omega⟩) (by first | assumption | exact ⟨by omega, by omega⟩)) rfl (Nat.le_of_ble_eq_true rfl) ?_
  rintro _ _ ⟨rfl, rfl⟩
  refine k_ifb_eq 21 dX12_status_9 (by decide) (fun h9 => ?_) (fun h9 => ?_)
  · skip
    refine k_aload_n dX12_status_21 rfl ?_
    refine k_iconst dX12_status_22 ?_
    refine k_callVi [.int (iI _)] dX12_status_23 s_X12_status_75 rfl m_xBad rfl (Nat.le_of_ble_eq_true rfl) sh_o86 ⟨_, rfl, rfl⟩ (Nat.le_of_ble_eq_true rfl) ?_
    rintro _ _ ⟨rfl, rfl⟩
    exact k_iret dX12_status_26 rfl ⟨_, rfl, by (try dsimp only); first | (rw [if_pos (by omega)]; exact ⟨rfl, rfl⟩) | (rw [if_neg (by omega)]; exact ⟨rfl, rfl⟩)⟩
  · skip
    refine k_aload_n dX12_status_12 rfl ?_
    refine k_getR dX12_status_13 f_X12_20 (Nat.le_of_ble_eq_true rfl) sh_o86 (fun _ => rfl) ?_
    refine k_iload_n dX12_status_16 rfl ?_
    refine k_iald w.toNat dX12_status_17 (Nat.le_of_ble_eq_true rfl) sh_a90 (by decide) (by omega) (by omega) ?_
    refine k_goto 26 dX12_status_18 (by decide) ?_
    exact k_iret dX12_status_26 rfl ⟨_, rfl, by (try dsimp only); first | (rw [if_pos (by omega)]; exact ⟨rfl, rfl⟩) | (rw [if_neg (by omega)]; exact ⟨rfl, rfl⟩)⟩
theorem m_xCounted {G : Mem} {w : Int} (hw : 0 ≤ w ∧ w ≤ 6) : MP M_X12_counted [.ref 86, .int (iI w)] G (vx (if w < 6 then G 87 w.toNat else G 86 15) G) := by
  refine MP.of [some (.ref 86), some (.int (iI w))] (plainFor_of_name pn_X12) (Nat.le_of_ble_eq_true rfl) rfl ?_
  refine k_iload_n dX12_counted_0 rfl ?_
  refine k_bipush dX12_counted_1 (by decide) ?_
  refine k_icmp_ge 15 dX12_counted_3 (by decide) ⟨by omega, by omega⟩ ⟨by decide, by decide⟩ (fun h3 => ?_) (fun h3 => ?_)
  · skip
    refine k_aload_n dX12_counted_15 rfl ?_
    refine k_getI dX12_counted_16 f_X12_225 (Nat.le_of_ble_eq_true rfl) sh_o86 (fun _ => rfl) ?_
    exact k_iret dX12_counted_19 rfl ⟨_, rfl, by first | exact if_pos (by omega) | exact if_neg (by omega), rfl⟩
  · skip
    refine k_aload_n dX12_counted_6 rfl ?_
    refine k_getR dX12_counted_7 f_X12_7 (Nat.le_of_ble_eq_true rfl) sh_o86 (fun _ => rfl) ?_
    refine k_iload_n dX12_counted_10 rfl ?_
    refine k_iald w.toNat dX12_counted_11 (Nat.le_of_ble_eq_true rfl) sh_a87 (by decide) (by omega) (by omega) ?_
    refine k_goto 19 dX12_counted_12 (by decide) ?_
    exact k_iret dX12_counted_19 rfl ⟨_, rfl, by first | exact if_pos (by omega) | exact if_neg (by omega), rfl⟩
theorem m_xCount {G : Mem} {w : Int} (hw : R32 w) : MP M_X12_count [.ref 86, .int (iI w)] G (vi fun v g => if 0 ≤ w ∧ w ≤ 6 then ((if w < 6 then G 87 w.toNat else G 86 15) = v ∧ G = g) else (-2 = v ∧ xB G = g)) := by
  refine MP.of [some (.ref 86), some (.int (iI w))] (plainFor_of_name pn_X12) (Nat.le_of_ble_eq_true rfl) rfl ?_
  refine k_iload_n dX12_count_0 rfl ?_
  refine k_i2l dX12_count_1 ⟨by omega, by omega⟩ ?_
  refine k_lconst dX12_count_2 ?_
  refine k_ldc2 6 dX12_count_3 w_1086 ?_
  refine k_callSi [.long (lI _), .long (lI _), .long (lI _)] dX12_count_6 s_X12_count_65 rfl (m_xIn (by first | assumption | exact ⟨by omega, by omega⟩) (by first | assumption | exact ⟨by omega, by omega⟩) (by first | assumption | exact ⟨by omega, by omega⟩)) rfl (Nat.le_of_ble_eq_true rfl) ?_
  rintro _ _ ⟨rfl, rfl⟩
  refine k_ifb_eq 20 dX12_count_9 (by decide) (fun h9 => ?_) (fun h9 => ?_)
  · skip
    refine k_aload_n dX12_count_20 rfl ?_
    refine k_bipush dX12_count_21 (by decide) ?_
    refine k_callVi [.int (iI _)] dX12_count_23 s_X12_count_75 rfl m_xBad rfl (Nat.le_of_ble_eq_true rfl) sh_o86 ⟨_, rfl, rfl⟩ (Nat.le_of_ble_eq_true rfl) ?_
    rintro _ _ ⟨rfl, rfl⟩
    exact k_iret dX12_count_26 rfl ⟨_, rfl, by (try dsimp only); first | (rw [if_pos (by omega)]; exact ⟨rfl, rfl⟩) | (rw [if_neg (by omega)]; exact ⟨rfl, rfl⟩)⟩
  · skip
    refine k_aload_n dX12_count_12 rfl ?_
    refine k_iload_n dX12_count_13 rfl ?_
    refine k_callVi [.int (iI _)] dX12_count_14 s_X12_count_273 rfl (m_xCounted (by omega)) rfl (Nat.le_of_ble_eq_true rfl) sh_o86 ⟨_, rfl, rfl⟩ (Nat.le_of_ble_eq_true rfl) ?_
    rintro _ _ ⟨rfl, rfl⟩
    refine k_goto 26 dX12_count_17 (by decide) ?_
    exact k_iret dX12_count_26 rfl ⟨_, rfl, by (try dsimp only); first | (rw [if_pos (by omega)]; exact ⟨rfl, rfl⟩) | (rw [if_neg (by omega)]; exact ⟨rfl, rfl⟩)⟩
theorem m_xPart {G : Mem} {w : Int} (hw : R32 w) : MP M_X12_part [.ref 86, .int (iI w)] G (vl fun v g => if 0 ≤ w ∧ w ≤ 1 then ((if w = 0 then G 86 4 else G 86 5) = v ∧ G = g) else (-2 = v ∧ xB G = g)) := by
  refine MP.of [some (.ref 86), some (.int (iI w))] (plainFor_of_name pn_X12) (Nat.le_of_ble_eq_true rfl) rfl ?_
  refine k_iload_n dX12_part_0 rfl ?_
  refine k_if_ne 11 dX12_part_1 (by decide) ⟨by omega, by omega⟩ (fun h1 => ?_) (fun h1 => ?_)
  · skip
    refine k_iload_n dX12_part_11 rfl ?_
    refine k_iconst dX12_part_12 ?_
    refine k_icmp_ne 23 dX12_part_13 (by decide) ⟨by omega, by omega⟩ ⟨by decide, by decide⟩ (fun h13 => ?_) (fun h13 => ?_)
    · skip
      refine k_aload_n dX12_part_23 rfl ?_
      refine k_bipush dX12_part_24 (by decide) ?_
      refine k_callVi [.int (iI _)] dX12_part_26 s_X12_part_75 rfl m_xBad rfl (Nat.le_of_ble_eq_true rfl) sh_o86 ⟨_, rfl, rfl⟩ (Nat.le_of_ble_eq_true rfl) ?_
      rintro _ _ ⟨rfl, rfl⟩
      refine k_i2l dX12_part_29 ⟨by omega, by omega⟩ ?_
      exact k_lret dX12_part_30 rfl ⟨_, rfl, by (try dsimp only); first | (rw [if_neg (by omega)]; exact ⟨rfl, rfl⟩) | (rw [if_pos (by omega), if_pos (by omega)]; exact ⟨rfl, rfl⟩) | (rw [if_pos (by omega), if_neg (by omega)]; exact ⟨rfl, rfl⟩)⟩
    · skip
      refine k_aload_n dX12_part_16 rfl ?_
      refine k_getL dX12_part_17 f_X12_23 (Nat.le_of_ble_eq_true rfl) sh_o86 (fun _ => rfl) ?_
      refine k_goto 30 dX12_part_20 (by decide) ?_
      exact k_lret dX12_part_30 rfl ⟨_, rfl, by (try dsimp only); first | (rw [if_neg (by omega)]; exact ⟨rfl, rfl⟩) | (rw [if_pos (by omega), if_pos (by omega)]; exact ⟨rfl, rfl⟩) | (rw [if_pos (by omega), if_neg (by omega)]; exact ⟨rfl, rfl⟩)⟩
  · skip
    refine k_aload_n dX12_part_4 rfl ?_
    refine k_getL dX12_part_5 f_X12_202 (Nat.le_of_ble_eq_true rfl) sh_o86 (fun _ => rfl) ?_
    refine k_goto 30 dX12_part_8 (by decide) ?_
    exact k_lret dX12_part_30 rfl ⟨_, rfl, by (try dsimp only); first | (rw [if_neg (by omega)]; exact ⟨rfl, rfl⟩) | (rw [if_pos (by omega), if_pos (by omega)]; exact ⟨rfl, rfl⟩) | (rw [if_pos (by omega), if_neg (by omega)]; exact ⟨rfl, rfl⟩)⟩
/-- a stretch of now is taken in -/
def xs (G : Mem) (h : Int) (f : Nat) : Nat → Int
  | 0 => h
  | k + 1 => 31 * xs G h f k + G 87 (f + k)
def xC (G : Mem) : Nat → Int
  | 0 => 977
  | k + 1 => 31 * xC G k + (if (k : Int) < 6 then G 87 (k : Int).toNat else G 86 15)
theorem lp_xSums {G : Mem} {h : Int} {f n : Nat} (hr : ∀ k, k < n → R32 (G 87 (f + k))) (hn : f + n ≤ 170) {l1 : Int} : ∀ k : Nat, k ≤ n → RP M_X12_sums 6 [some (.ref 86), some (.long (lI l1)), none, some (.int (iI (f : Int))), some (.int (iI (n : Int))), some (.long (lI (xs G h f k))), none, some (.int (iI (k : Int)))] [] G (vl fun v g => xs G h f n = v ∧ G = g) := by
  refine cnt ?_ (fun k hk ih => ?_)
  · skip
    refine k_iload dX12_sums_6 rfl ?_
    refine k_iload dX12_sums_8 rfl ?_
    refine k_icmp_ge 38 dX12_sums_10 (by decide) ⟨by omega, by omega⟩ ⟨by omega, by omega⟩ (fun h10 => ?_) (fun h10 => absurd h10 (by omega))
    refine k_lload dX12_sums_38 rfl ?_
    exact k_lret dX12_sums_40 rfl ⟨_, rfl, rfl, rfl⟩
  · have hz := hr k hk
    refine k_iload dX12_sums_6 rfl ?_
    refine k_iload dX12_sums_8 rfl ?_
    refine k_icmp_ge 38 dX12_sums_10 (by decide) ⟨by omega, by omega⟩ ⟨by omega, by omega⟩ (fun h10 => absurd h10 (by omega)) (fun h10 => ?_)
    refine k_ldc2 31 dX12_sums_13 w_1226 ?_
    refine k_lload dX12_sums_16 rfl ?_
    refine k_lmul dX12_sums_18 ?_
    refine k_aload_n dX12_sums_19 rfl ?_
    refine k_getR dX12_sums_20 f_X12_7 (Nat.le_of_ble_eq_true rfl) sh_o86 (fun _ => rfl) ?_
    refine k_iload_n dX12_sums_23 rfl ?_
    refine k_iload dX12_sums_24 rfl ?_
    refine k_iadd dX12_sums_26 ?_
    refine k_iald (f + k) dX12_sums_27 (Nat.le_of_ble_eq_true rfl) sh_a87 (by decide) (by omega) (by omega) ?_
    refine k_i2l dX12_sums_28 hz ?_
    refine k_ladd dX12_sums_29 ?_
    refine k_lstore (L' := [_, _, _, _, _, _, _, _]) dX12_sums_30 (Nat.le_of_ble_eq_true rfl) rfl ?_
    refine k_iinc (L' := [_, _, _, _, _, _, _, _]) dX12_sums_32 rfl (Nat.le_of_ble_eq_true rfl) rfl ?_
    refine k_goto 6 dX12_sums_35 (by decide) ?_
    exact ih
theorem m_xSums {G : Mem} {h : Int} {f n : Nat} (hr : ∀ k, k < n → R32 (G 87 (f + k))) (hn : f + n ≤ 170) : MP M_X12_sums [.ref 86, .long (lI h), .int (iI (f : Int)), .int (iI (n : Int))] G (vl fun v g => xs G h f n = v ∧ G = g) := by
  refine MP.of [some (.ref 86), some (.long (lI h)), none, some (.int (iI (f : Int))), some (.int (iI (n : Int))), none, none, none] (plainFor_of_name pn_X12) (Nat.le_of_ble_eq_true rfl) rfl ?_
  refine k_lload_n dX12_sums_0 rfl ?_
  refine k_lstore (L' := [_, _, _, _, _, _, _, _]) dX12_sums_1 (Nat.le_of_ble_eq_true rfl) rfl ?_
  refine k_iconst dX12_sums_3 ?_
  refine k_istore (L' := [_, _, _, _, _, _, _, _]) dX12_sums_4 (Nat.le_of_ble_eq_true rfl) rfl ?_
  exact lp_xSums hr hn 0 (by omega)
theorem lp_xDig {G : Mem} (hr : ∀ k : Nat, k < 6 → R32 (G 87 k)) (hb : R32 (G 86 15)) {Post : Option Value → Mem → Prop} (hk : ∀ j3, RP M_X12_digest 31 [some (.ref 86), some (.long (lI (xC G 7))), none, j3] [] G Post) : ∀ k : Nat, k ≤ 7 → RP M_X12_digest 6 [some (.ref 86), some (.long (lI (xC G k))), none, some (.int (iI (k : Int)))] [] G Post := by
  refine cnt ?_ (fun k hk2 ih => ?_)
  · skip
    refine k_iload_n dX12_digest_6 rfl ?_
    refine k_bipush dX12_digest_7 (by decide) ?_
    refine k_icmp_ge 31 dX12_digest_9 (by decide) ⟨by omega, by omega⟩ ⟨by decide, by decide⟩ (fun h9 => ?_) (fun h9 => absurd h9 (by omega))
    exact hk _
  · have hz : R32 (if (k : Int) < 6 then G 87 (k : Int).toNat else G 86 15) := by
      split
      · exact hr _ (by omega)
      · exact hb
    refine k_iload_n dX12_digest_6 rfl ?_
    refine k_bipush dX12_digest_7 (by decide) ?_
    refine k_icmp_ge 31 dX12_digest_9 (by decide) ⟨by omega, by omega⟩ ⟨by decide, by decide⟩ (fun h9 => absurd h9 (by omega)) (fun h9 => ?_)
    refine k_ldc2 31 dX12_digest_12 w_1226 ?_
    refine k_lload_n dX12_digest_15 rfl ?_
    refine k_lmul dX12_digest_16 ?_
    refine k_aload_n dX12_digest_17 rfl ?_
    refine k_iload_n dX12_digest_18 rfl ?_
    refine k_callVi [.int (iI _)] dX12_digest_19 s_X12_digest_273 rfl (m_xCounted (by omega)) rfl (Nat.le_of_ble_eq_true rfl) sh_o86 ⟨_, rfl, rfl⟩ (Nat.le_of_ble_eq_true rfl) ?_
    rintro _ _ ⟨rfl, rfl⟩
    refine k_i2l dX12_digest_22 hz ?_
    refine k_ladd dX12_digest_23 ?_
    refine k_lstore_n (L' := [_, _, _, _]) dX12_digest_24 (Nat.le_of_ble_eq_true rfl) rfl ?_
    refine k_iinc (L' := [_, _, _, _]) dX12_digest_25 rfl (Nat.le_of_ble_eq_true rfl) rfl ?_
    refine k_goto 6 dX12_digest_28 (by decide) ?_
    exact ih
theorem m_xDigest {G : Mem} (hr : ∀ k : Nat, k < 6 → R32 (G 87 k)) (hr1 : ∀ k : Nat, k < 5 * (G 87 0).toNat → R32 (G 87 (6 + k))) (hr2 : ∀ k : Nat, k < (G 87 3).toNat → R32 (G 87 (36 + k))) (hr3 : ∀ k : Nat, k < 3 * (G 87 4).toNat → R32 (G 87 (56 + k))) (hb : R32 (G 86 15)) (h0 : 0 ≤ G 87 0 ∧ G 87 0 ≤ 6) (h3 : 0 ≤ G 87 3 ∧ G 87 3 ≤ 20) (h4 : 0 ≤ G 87 4 ∧ G 87 4 ≤ 6) : MP M_X12_digest [.ref 86] G (vl fun v g => 31 * (31 * xs G (xs G (xs G (xC G 7) 6 (5 * (G 87 0).toNat)) 36 (G 87 3).toNat) 56 (3 * (G 87 4).toNat) + G 86 4) + G 86 5 = v ∧ G = g) := by
  refine MP.of [some (.ref 86), none, none, none] (plainFor_of_name pn_X12) (Nat.le_of_ble_eq_true rfl) rfl ?_
  refine k_ldc2 977 dX12_digest_0 w_1225 ?_
  refine k_lstore_n (L' := [_, _, _, _]) dX12_digest_3 (Nat.le_of_ble_eq_true rfl) rfl ?_
  refine k_iconst dX12_digest_4 ?_
  refine k_istore_n (L' := [_, _, _, _]) dX12_digest_5 (Nat.le_of_ble_eq_true rfl) rfl ?_
  refine lp_xDig hr hb (fun j3 => ?_) 0 (by omega)
  refine k_aload_n dX12_digest_31 rfl ?_
  refine k_lload_n dX12_digest_32 rfl ?_
  refine k_bipush dX12_digest_33 (by decide) ?_
  refine k_iconst dX12_digest_35 ?_
  refine k_aload_n dX12_digest_36 rfl ?_
  refine k_callVi [] dX12_digest_37 s_X12_digest_61 rfl m_xChildren rfl (Nat.le_of_ble_eq_true rfl) sh_o86 ⟨_, rfl, rfl⟩ (Nat.le_of_ble_eq_true rfl) ?_
  rintro _ _ ⟨rfl, rfl⟩
  refine k_imul dX12_digest_40 ?_
  rw [show (5 : Int) * G 87 0 = ((5 * (G 87 0).toNat : Nat) : Int) by omega]
  refine k_callVl [.long (lI _), .int (iI _), .int (iI _)] dX12_digest_41 s_X12_digest_280 rfl (m_xSums (f := 6) hr1 (by omega)) rfl (Nat.le_of_ble_eq_true rfl) sh_o86 ⟨_, rfl, rfl⟩ (Nat.le_of_ble_eq_true rfl) ?_
  rintro _ _ ⟨rfl, rfl⟩
  refine k_lstore_n (L' := [_, _, _, _]) dX12_digest_44 (Nat.le_of_ble_eq_true rfl) rfl ?_
  refine k_aload_n dX12_digest_45 rfl ?_
  refine k_lload_n dX12_digest_46 rfl ?_
  refine k_bipush dX12_digest_47 (by decide) ?_
  refine k_aload_n dX12_digest_49 rfl ?_
  refine k_getR dX12_digest_50 f_X12_7 (Nat.le_of_ble_eq_true rfl) sh_o86 (fun _ => rfl) ?_
  refine k_iconst dX12_digest_53 ?_
  refine k_iald (3) dX12_digest_54 (Nat.le_of_ble_eq_true rfl) sh_a87 (by decide) (by omega) (by omega) ?_
  rw [show G 87 3 = (((G 87 3).toNat : Nat) : Int) by omega]
  simp only [Int.toNat_natCast]
  refine k_callVl [.long (lI _), .int (iI _), .int (iI _)] dX12_digest_55 s_X12_digest_280 rfl (m_xSums (f := 36) (n := (G 87 3).toNat) hr2 (by omega)) rfl (Nat.le_of_ble_eq_true rfl) sh_o86 ⟨_, rfl, rfl⟩ (Nat.le_of_ble_eq_true rfl) ?_
  rintro _ _ ⟨rfl, rfl⟩
  refine k_lstore_n (L' := [_, _, _, _]) dX12_digest_58 (Nat.le_of_ble_eq_true rfl) rfl ?_
  refine k_aload_n dX12_digest_59 rfl ?_
  refine k_lload_n dX12_digest_60 rfl ?_
  refine k_bipush dX12_digest_61 (by decide) ?_
  refine k_iconst dX12_digest_63 ?_
  refine k_aload_n dX12_digest_64 rfl ?_
  refine k_getR dX12_digest_65 f_X12_7 (Nat.le_of_ble_eq_true rfl) sh_o86 (fun _ => rfl) ?_
  refine k_iconst dX12_digest_68 ?_
  refine k_iald (4) dX12_digest_69 (Nat.le_of_ble_eq_true rfl) sh_a87 (by decide) (by omega) (by omega) ?_
  refine k_imul dX12_digest_70 ?_
  rw [show (3 : Int) * G 87 4 = ((3 * (G 87 4).toNat : Nat) : Int) by omega]
  refine k_callVl [.long (lI _), .int (iI _), .int (iI _)] dX12_digest_71 s_X12_digest_280 rfl (m_xSums (f := 56) hr3 (by omega)) rfl (Nat.le_of_ble_eq_true rfl) sh_o86 ⟨_, rfl, rfl⟩ (Nat.le_of_ble_eq_true rfl) ?_
  rintro _ _ ⟨rfl, rfl⟩
  refine k_lstore_n (L' := [_, _, _, _]) dX12_digest_74 (Nat.le_of_ble_eq_true rfl) rfl ?_
  refine k_ldc2 31 dX12_digest_75 w_1226 ?_
  refine k_ldc2 31 dX12_digest_78 w_1226 ?_
  refine k_lload_n dX12_digest_81 rfl ?_
  refine k_lmul dX12_digest_82 ?_
  refine k_aload_n dX12_digest_83 rfl ?_
  refine k_getL dX12_digest_84 f_X12_202 (Nat.le_of_ble_eq_true rfl) sh_o86 (fun _ => rfl) ?_
  refine k_ladd dX12_digest_87 ?_
  refine k_lmul dX12_digest_88 ?_
  refine k_aload_n dX12_digest_89 rfl ?_
  refine k_getL dX12_digest_90 f_X12_23 (Nat.le_of_ble_eq_true rfl) sh_o86 (fun _ => rfl) ?_
  refine k_ladd dX12_digest_93 ?_
  exact k_lret dX12_digest_94 rfl ⟨_, rfl, rfl, rfl⟩
