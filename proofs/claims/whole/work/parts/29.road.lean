/-! ===== a road's own writes ===== -/
theorem cg_nc {G : Mem} {a sp b dp n x y : Nat} (h : x ≠ b) : cg G a sp b dp n x y = G x y := if_neg (fun q => h q.1)
def rBegin (G : Mem) (r : Nat) (s l : Int) : Mem := ug (ug (ug (ug (ug (ug G r 0 s) r 1 l) r 2 0) r 8 0) r 10 0) r 14 0
def rAdd (G : Mem) (r : Nat) (k h c s b : Int) : Mem := if 6 ≤ G r 2 then G else ug (ug (ug (ug (ug (ug (ug G (r + 1) (G r 2).toNat k) (r + 2) (G r 2).toNat h) (r + 3) (G r 2).toNat c) (r + 4) (G r 2).toNat s) (r + 5) (G r 2).toNat b) r 2 (G r 2 + 1)) r 14 0
def rSpd (G : Mem) (r : Nat) (n : Int) : Mem := if 20 ≤ G r 8 then G else ug (ug G (r + 6) (G r 8).toNat n) r 8 (G r 8 + 1)
def rRdg (G : Mem) (r : Nat) (c t v : Int) : Mem := if 6 ≤ G r 10 then G else ug (ug (ug (ug G (r + 7) (G r 10).toNat c) (r + 8) (G r 10).toNat t) (r + 9) (G r 10).toNat v) r 10 (G r 10 + 1)
def rSh (G : Mem) (r : Nat) : Mem := ug (cg (cg (cg G (r + 10) 1 (r + 10) 0 7) (r + 11) 1 (r + 11) 0 7) (r + 12) 1 (r + 12) 0 7) r 14 7
def rPush (G : Mem) (r n : Nat) (c b w : Int) : Mem := ug (ug (ug (ug G (r + 10) n c) (r + 11) n b) (r + 12) n w) r 14 ((n : Int) + 1)
def rKeep (G : Mem) (r : Nat) (c b w : Int) : Mem := if 8 ≤ G r 14 then rPush (rSh G r) r 7 c b w else rPush G r (G r 14).toNat c b w
def rUndo (G : Mem) (r : Nat) : Mem := if G r 14 ≤ 0 then G else if G (r + 11) (G r 14 - 1).toNat = 0 then ug (ug G r 14 (G r 14 - 1)) (r + 3) (G (r + 10) (G r 14 - 1).toNat).toNat (G (r + 12) (G r 14 - 1).toNat) else ug (ug G r 14 (G r 14 - 1)) (r + 5) (G (r + 10) (G r 14 - 1).toNat).toNat (G (r + 12) (G r 14 - 1).toNat)
theorem m_begin {G : Mem} {r : Nat} (hr : Rd r) {s l : Int} : MP M_X6_begin [.ref r, .int (iI s), .int (iI l)] G (vv (fun g => rBegin G r s l = g)) := by
  refine MP.of [some (.ref r), some (.int (iI s)), some (.int (iI l))] (plainFor_of_name pn_X6) (Nat.le_of_ble_eq_true rfl) rfl ?_
  refine k_aload_n dX6_begin_0 rfl ?_
  refine k_iload_n dX6_begin_1 rfl ?_
  refine k_putI dX6_begin_2 f_X6_9 (Rd.l0 hr) (Rd.o hr) (fun _ => (Nat.le_of_ble_eq_true rfl)) rfl (fun _ => by simp only [eq_self, true_and]; rfl) ?_
  refine k_aload_n dX6_begin_5 rfl ?_
  refine k_iload_n dX6_begin_6 rfl ?_
  refine k_putI dX6_begin_7 f_X6_53 (Rd.l0 hr) (Rd.o hr) (fun _ => (Nat.le_of_ble_eq_true rfl)) rfl (fun _ => by simp only [eq_self, true_and]; rfl) ?_
  refine k_aload_n dX6_begin_10 rfl ?_
  refine k_iconst dX6_begin_11 ?_
  refine k_putI dX6_begin_12 f_X6_56 (Rd.l0 hr) (Rd.o hr) (fun _ => (Nat.le_of_ble_eq_true rfl)) rfl (fun _ => by simp only [eq_self, true_and]; rfl) ?_
  refine k_aload_n dX6_begin_15 rfl ?_
  refine k_iconst dX6_begin_16 ?_
  refine k_putI dX6_begin_17 f_X6_59 (Rd.l0 hr) (Rd.o hr) (fun _ => (Nat.le_of_ble_eq_true rfl)) rfl (fun _ => by simp only [eq_self, true_and]; rfl) ?_
  refine k_aload_n dX6_begin_20 rfl ?_
  refine k_iconst dX6_begin_21 ?_
  refine k_putI dX6_begin_22 f_X6_62 (Rd.l0 hr) (Rd.o hr) (fun _ => (Nat.le_of_ble_eq_true rfl)) rfl (fun _ => by simp only [eq_self, true_and]; rfl) ?_
  refine k_aload_n dX6_begin_25 rfl ?_
  refine k_iconst dX6_begin_26 ?_
  refine k_putI dX6_begin_27 f_X6_65 (Rd.l0 hr) (Rd.o hr) (fun _ => (Nat.le_of_ble_eq_true rfl)) rfl (fun _ => by simp only [eq_self, true_and]; rfl) ?_
  exact k_ret dX6_begin_30 rfl ⟨rfl, rfl⟩
theorem m_addChild {G : Mem} {r : Nat} (hr : Rd r) (hn : 0 ≤ G r 2 ∧ G r 2 ≤ 6) {k h c s b : Int} : MP M_X6_addChild [.ref r, .int (iI k), .int (iI h), .int (iI c), .int (iI s), .int (iI b)] G (vv (fun g => rAdd G r k h c s b = g)) := by
  refine MP.of [some (.ref r), some (.int (iI k)), some (.int (iI h)), some (.int (iI c)), some (.int (iI s)), some (.int (iI b))] (plainFor_of_name pn_X6) (Nat.le_of_ble_eq_true rfl) rfl ?_
  refine k_aload_n dX6_addChild_0 rfl ?_
  refine k_getI dX6_addChild_1 f_X6_56 (Rd.l0 hr) (Rd.o hr) (fun _ => rfl) ?_
  try simp (disch := omega) only [ug_at, ug_nc, ug_np, cg_nc]
  refine k_bipush dX6_addChild_4 (by decide) ?_
  refine k_icmp_lt 10 dX6_addChild_6 (by decide) ⟨by omega, by omega⟩ ⟨by decide, by decide⟩ (fun h6 => ?_) (fun h6 => ?_)
  · skip
    refine k_aload_n dX6_addChild_10 rfl ?_
    refine k_getR dX6_addChild_11 f_X6_15 (Rd.l0 hr) (Rd.o hr) (fun _ => rfl) ?_
    try simp (disch := omega) only [ug_at, ug_nc, ug_np, cg_nc]
    refine k_aload_n dX6_addChild_14 rfl ?_
    refine k_getI dX6_addChild_15 f_X6_56 (Rd.l0 hr) (Rd.o hr) (fun _ => rfl) ?_
    try simp (disch := omega) only [ug_at, ug_nc, ug_np, cg_nc]
    refine k_iload_n dX6_addChild_18 rfl ?_
    refine k_iast (G r 2).toNat dX6_addChild_19 (Rd.l1 hr) (Rd.a1 hr) (by decide) (by omega) (by omega) ?_
    refine k_aload_n dX6_addChild_20 rfl ?_
    refine k_getR dX6_addChild_21 f_X6_19 (Rd.l0 hr) (Rd.o hr) (fun _ => rfl) ?_
    try simp (disch := omega) only [ug_at, ug_nc, ug_np, cg_nc]
    refine k_aload_n dX6_addChild_24 rfl ?_
    refine k_getI dX6_addChild_25 f_X6_56 (Rd.l0 hr) (Rd.o hr) (fun _ => rfl) ?_
    try simp (disch := omega) only [ug_at, ug_nc, ug_np, cg_nc]
    refine k_iload_n dX6_addChild_28 rfl ?_
    refine k_iast (G r 2).toNat dX6_addChild_29 (Rd.l2 hr) (Rd.a2 hr) (by decide) (by omega) (by omega) ?_
    refine k_aload_n dX6_addChild_30 rfl ?_
    refine k_getR dX6_addChild_31 f_X6_22 (Rd.l0 hr) (Rd.o hr) (fun _ => rfl) ?_
    try simp (disch := omega) only [ug_at, ug_nc, ug_np, cg_nc]
    refine k_aload_n dX6_addChild_34 rfl ?_
    refine k_getI dX6_addChild_35 f_X6_56 (Rd.l0 hr) (Rd.o hr) (fun _ => rfl) ?_
    try simp (disch := omega) only [ug_at, ug_nc, ug_np, cg_nc]
    refine k_iload_n dX6_addChild_38 rfl ?_
    refine k_iast (G r 2).toNat dX6_addChild_39 (Rd.l3 hr) (Rd.a3 hr) (by decide) (by omega) (by omega) ?_
    refine k_aload_n dX6_addChild_40 rfl ?_
    refine k_getR dX6_addChild_41 f_X6_25 (Rd.l0 hr) (Rd.o hr) (fun _ => rfl) ?_
    try simp (disch := omega) only [ug_at, ug_nc, ug_np, cg_nc]
    refine k_aload_n dX6_addChild_44 rfl ?_
    refine k_getI dX6_addChild_45 f_X6_56 (Rd.l0 hr) (Rd.o hr) (fun _ => rfl) ?_
    try simp (disch := omega) only [ug_at, ug_nc, ug_np, cg_nc]
    refine k_iload dX6_addChild_48 rfl ?_
    refine k_iast (G r 2).toNat dX6_addChild_50 (Rd.l4 hr) (Rd.a4 hr) (by decide) (by omega) (by omega) ?_
    refine k_aload_n dX6_addChild_51 rfl ?_
    refine k_getR dX6_addChild_52 f_X6_28 (Rd.l0 hr) (Rd.o hr) (fun _ => rfl) ?_
    try simp (disch := omega) only [ug_at, ug_nc, ug_np, cg_nc]
    refine k_aload_n dX6_addChild_55 rfl ?_
    refine k_getI dX6_addChild_56 f_X6_56 (Rd.l0 hr) (Rd.o hr) (fun _ => rfl) ?_
    try simp (disch := omega) only [ug_at, ug_nc, ug_np, cg_nc]
    refine k_iload dX6_addChild_59 rfl ?_
    refine k_iast (G r 2).toNat dX6_addChild_61 (Rd.l5 hr) (Rd.a5 hr) (by decide) (by omega) (by omega) ?_
    refine k_aload_n dX6_addChild_62 rfl ?_
    refine k_dup dX6_addChild_63 rfl ?_
    refine k_getI dX6_addChild_64 f_X6_56 (Rd.l0 hr) (Rd.o hr) (fun _ => rfl) ?_
    try simp (disch := omega) only [ug_at, ug_nc, ug_np, cg_nc]
    refine k_iconst dX6_addChild_67 ?_
    refine k_iadd dX6_addChild_68 ?_
    refine k_putI dX6_addChild_69 f_X6_56 (Rd.l0 hr) (Rd.o hr) (fun _ => (Nat.le_of_ble_eq_true rfl)) rfl (fun _ => by simp only [eq_self, true_and]; rfl) ?_
    refine k_aload_n dX6_addChild_72 rfl ?_
    refine k_iconst dX6_addChild_73 ?_
    refine k_putI dX6_addChild_74 f_X6_65 (Rd.l0 hr) (Rd.o hr) (fun _ => (Nat.le_of_ble_eq_true rfl)) rfl (fun _ => by simp only [eq_self, true_and]; rfl) ?_
    exact k_ret dX6_addChild_77 rfl ⟨rfl, by first | exact if_pos (by omega) | exact if_neg (by omega)⟩
  · skip
    exact k_ret dX6_addChild_9 rfl ⟨rfl, by first | exact if_pos (by omega) | exact if_neg (by omega)⟩
theorem m_addSpeed {G : Mem} {r : Nat} (hr : Rd r) (hn : 0 ≤ G r 8 ∧ G r 8 ≤ 20) {n : Int} : MP M_X6_addSpeed [.ref r, .int (iI n)] G (vv (fun g => rSpd G r n = g)) := by
  refine MP.of [some (.ref r), some (.int (iI n))] (plainFor_of_name pn_X6) (Nat.le_of_ble_eq_true rfl) rfl ?_
  refine k_aload_n dX6_addSpeed_0 rfl ?_
  refine k_getI dX6_addSpeed_1 f_X6_59 (Rd.l0 hr) (Rd.o hr) (fun _ => rfl) ?_
  try simp (disch := omega) only [ug_at, ug_nc, ug_np, cg_nc]
  refine k_bipush dX6_addSpeed_4 (by decide) ?_
  refine k_icmp_ge 29 dX6_addSpeed_6 (by decide) ⟨by omega, by omega⟩ ⟨by decide, by decide⟩ (fun h6 => ?_) (fun h6 => ?_)
  · skip
    exact k_ret dX6_addSpeed_29 rfl ⟨rfl, by first | exact if_pos (by omega) | exact if_neg (by omega)⟩
  · skip
    refine k_aload_n dX6_addSpeed_9 rfl ?_
    refine k_getR dX6_addSpeed_10 f_X6_31 (Rd.l0 hr) (Rd.o hr) (fun _ => rfl) ?_
    try simp (disch := omega) only [ug_at, ug_nc, ug_np, cg_nc]
    refine k_aload_n dX6_addSpeed_13 rfl ?_
    refine k_getI dX6_addSpeed_14 f_X6_59 (Rd.l0 hr) (Rd.o hr) (fun _ => rfl) ?_
    try simp (disch := omega) only [ug_at, ug_nc, ug_np, cg_nc]
    refine k_iload_n dX6_addSpeed_17 rfl ?_
    refine k_iast (G r 8).toNat dX6_addSpeed_18 (Rd.l6 hr) (Rd.a6 hr) (by decide) (by omega) (by omega) ?_
    refine k_aload_n dX6_addSpeed_19 rfl ?_
    refine k_dup dX6_addSpeed_20 rfl ?_
    refine k_getI dX6_addSpeed_21 f_X6_59 (Rd.l0 hr) (Rd.o hr) (fun _ => rfl) ?_
    try simp (disch := omega) only [ug_at, ug_nc, ug_np, cg_nc]
    refine k_iconst dX6_addSpeed_24 ?_
    refine k_iadd dX6_addSpeed_25 ?_
    refine k_putI dX6_addSpeed_26 f_X6_59 (Rd.l0 hr) (Rd.o hr) (fun _ => (Nat.le_of_ble_eq_true rfl)) rfl (fun _ => by simp only [eq_self, true_and]; rfl) ?_
    exact k_ret dX6_addSpeed_29 rfl ⟨rfl, by first | exact if_pos (by omega) | exact if_neg (by omega)⟩
theorem m_addReading {G : Mem} {r : Nat} (hr : Rd r) (hn : 0 ≤ G r 10 ∧ G r 10 ≤ 6) {c t v : Int} : MP M_X6_addReading [.ref r, .int (iI c), .int (iI t), .int (iI v)] G (vv (fun g => rRdg G r c t v = g)) := by
  refine MP.of [some (.ref r), some (.int (iI c)), some (.int (iI t)), some (.int (iI v))] (plainFor_of_name pn_X6) (Nat.le_of_ble_eq_true rfl) rfl ?_
  refine k_aload_n dX6_addReading_0 rfl ?_
  refine k_getI dX6_addReading_1 f_X6_62 (Rd.l0 hr) (Rd.o hr) (fun _ => rfl) ?_
  try simp (disch := omega) only [ug_at, ug_nc, ug_np, cg_nc]
  refine k_bipush dX6_addReading_4 (by decide) ?_
  refine k_icmp_ge 49 dX6_addReading_6 (by decide) ⟨by omega, by omega⟩ ⟨by decide, by decide⟩ (fun h6 => ?_) (fun h6 => ?_)
  · skip
    exact k_ret dX6_addReading_49 rfl ⟨rfl, by first | exact if_pos (by omega) | exact if_neg (by omega)⟩
  · skip
    refine k_aload_n dX6_addReading_9 rfl ?_
    refine k_getR dX6_addReading_10 f_X6_34 (Rd.l0 hr) (Rd.o hr) (fun _ => rfl) ?_
    try simp (disch := omega) only [ug_at, ug_nc, ug_np, cg_nc]
    refine k_aload_n dX6_addReading_13 rfl ?_
    refine k_getI dX6_addReading_14 f_X6_62 (Rd.l0 hr) (Rd.o hr) (fun _ => rfl) ?_
    try simp (disch := omega) only [ug_at, ug_nc, ug_np, cg_nc]
    refine k_iload_n dX6_addReading_17 rfl ?_
    refine k_iast (G r 10).toNat dX6_addReading_18 (Rd.l7 hr) (Rd.a7 hr) (by decide) (by omega) (by omega) ?_
    refine k_aload_n dX6_addReading_19 rfl ?_
    refine k_getR dX6_addReading_20 f_X6_37 (Rd.l0 hr) (Rd.o hr) (fun _ => rfl) ?_
    try simp (disch := omega) only [ug_at, ug_nc, ug_np, cg_nc]
    refine k_aload_n dX6_addReading_23 rfl ?_
    refine k_getI dX6_addReading_24 f_X6_62 (Rd.l0 hr) (Rd.o hr) (fun _ => rfl) ?_
    try simp (disch := omega) only [ug_at, ug_nc, ug_np, cg_nc]
    refine k_iload_n dX6_addReading_27 rfl ?_
    refine k_iast (G r 10).toNat dX6_addReading_28 (Rd.l8 hr) (Rd.a8 hr) (by decide) (by omega) (by omega) ?_
    refine k_aload_n dX6_addReading_29 rfl ?_
    refine k_getR dX6_addReading_30 f_X6_40 (Rd.l0 hr) (Rd.o hr) (fun _ => rfl) ?_
    try simp (disch := omega) only [ug_at, ug_nc, ug_np, cg_nc]
    refine k_aload_n dX6_addReading_33 rfl ?_
    refine k_getI dX6_addReading_34 f_X6_62 (Rd.l0 hr) (Rd.o hr) (fun _ => rfl) ?_
    try simp (disch := omega) only [ug_at, ug_nc, ug_np, cg_nc]
    refine k_iload_n dX6_addReading_37 rfl ?_
    refine k_iast (G r 10).toNat dX6_addReading_38 (Rd.l9 hr) (Rd.a9 hr) (by decide) (by omega) (by omega) ?_
    refine k_aload_n dX6_addReading_39 rfl ?_
    refine k_dup dX6_addReading_40 rfl ?_
    refine k_getI dX6_addReading_41 f_X6_62 (Rd.l0 hr) (Rd.o hr) (fun _ => rfl) ?_
    try simp (disch := omega) only [ug_at, ug_nc, ug_np, cg_nc]
    refine k_iconst dX6_addReading_44 ?_
    refine k_iadd dX6_addReading_45 ?_
    refine k_putI dX6_addReading_46 f_X6_62 (Rd.l0 hr) (Rd.o hr) (fun _ => (Nat.le_of_ble_eq_true rfl)) rfl (fun _ => by simp only [eq_self, true_and]; rfl) ?_
    exact k_ret dX6_addReading_49 rfl ⟨rfl, by first | exact if_pos (by omega) | exact if_neg (by omega)⟩
theorem lp_push {G : Mem} {r : Nat} (hr : Rd r) {n : Nat} (hn : G r 14 = n) (hn8 : n < 8) {c b w : Int} (hb : b = 0 ∨ b = 1) : RP M_X6_keepForUndo 60 [some (.ref r), some (.int (iI c)), some (.int (iI b)), some (.int (iI w))] [] G (vv (fun g => rPush G r n c b w = g)) := by
  refine k_aload_n dX6_keepForUndo_60 rfl ?_
  refine k_getR dX6_keepForUndo_61 f_X6_43 (Rd.l0 hr) (Rd.o hr) (fun _ => rfl) ?_
  try simp (disch := omega) only [ug_at, ug_nc, ug_np, cg_nc]
  refine k_aload_n dX6_keepForUndo_64 rfl ?_
  refine k_getI dX6_keepForUndo_65 f_X6_65 (Rd.l0 hr) (Rd.o hr) (fun _ => rfl) ?_
  try simp (disch := omega) only [ug_at, ug_nc, ug_np, cg_nc]
  refine k_iload_n dX6_keepForUndo_68 rfl ?_
  refine k_iast n dX6_keepForUndo_69 (Rd.l10 hr) (Rd.a10 hr) (by decide) (by omega) (by omega) ?_
  refine k_aload_n dX6_keepForUndo_70 rfl ?_
  refine k_getR dX6_keepForUndo_71 f_X6_46 (Rd.l0 hr) (Rd.o hr) (fun _ => rfl) ?_
  try simp (disch := omega) only [ug_at, ug_nc, ug_np, cg_nc]
  refine k_aload_n dX6_keepForUndo_74 rfl ?_
  refine k_getI dX6_keepForUndo_75 f_X6_65 (Rd.l0 hr) (Rd.o hr) (fun _ => rfl) ?_
  try simp (disch := omega) only [ug_at, ug_nc, ug_np, cg_nc]
  refine k_iload_n dX6_keepForUndo_78 rfl ?_
  refine k_zast n dX6_keepForUndo_79 (Rd.l11 hr) (Rd.a11 hr) (by decide) (by omega) (by omega) hb ?_
  refine k_aload_n dX6_keepForUndo_80 rfl ?_
  refine k_getR dX6_keepForUndo_81 f_X6_50 (Rd.l0 hr) (Rd.o hr) (fun _ => rfl) ?_
  try simp (disch := omega) only [ug_at, ug_nc, ug_np, cg_nc]
  refine k_aload_n dX6_keepForUndo_84 rfl ?_
  refine k_getI dX6_keepForUndo_85 f_X6_65 (Rd.l0 hr) (Rd.o hr) (fun _ => rfl) ?_
  try simp (disch := omega) only [ug_at, ug_nc, ug_np, cg_nc]
  refine k_iload_n dX6_keepForUndo_88 rfl ?_
  refine k_iast n dX6_keepForUndo_89 (Rd.l12 hr) (Rd.a12 hr) (by decide) (by omega) (by omega) ?_
  refine k_aload_n dX6_keepForUndo_90 rfl ?_
  refine k_dup dX6_keepForUndo_91 rfl ?_
  refine k_getI dX6_keepForUndo_92 f_X6_65 (Rd.l0 hr) (Rd.o hr) (fun _ => rfl) ?_
  try simp (disch := omega) only [ug_at, ug_nc, ug_np, cg_nc]
  refine k_iconst dX6_keepForUndo_95 ?_
  rw [hn]
  refine k_iadd dX6_keepForUndo_96 ?_
  refine k_putI dX6_keepForUndo_97 f_X6_65 (Rd.l0 hr) (Rd.o hr) (fun _ => (Nat.le_of_ble_eq_true rfl)) rfl (fun _ => by simp only [eq_self, true_and]; rfl) ?_
  exact k_ret dX6_keepForUndo_100 rfl ⟨rfl, rfl⟩
theorem m_keepForUndo {G : Mem} {r : Nat} (hr : Rd r) (hn : 0 ≤ G r 14 ∧ G r 14 ≤ 8) (hz : ∀ j, G (r + 11) j = 0 ∨ G (r + 11) j = 1) {c b w : Int} (hb : b = 0 ∨ b = 1) : MP M_X6_keepForUndo [.ref r, .int (iI c), .int (iI b), .int (iI w)] G (vv (fun g => rKeep G r c b w = g)) := by
  refine MP.of [some (.ref r), some (.int (iI c)), some (.int (iI b)), some (.int (iI w))] (plainFor_of_name pn_X6) (Nat.le_of_ble_eq_true rfl) rfl ?_
  refine k_aload_n dX6_keepForUndo_0 rfl ?_
  refine k_getI dX6_keepForUndo_1 f_X6_65 (Rd.l0 hr) (Rd.o hr) (fun _ => rfl) ?_
  refine k_bipush dX6_keepForUndo_4 (by decide) ?_
  refine k_icmp_lt 60 dX6_keepForUndo_6 (by decide) ⟨by omega, by omega⟩ ⟨by decide, by decide⟩ (fun h6 => ?_) (fun h6 => ?_)
  · skip
    first | (rw [show rKeep G r c b w = rPush G r (G r 14).toNat c b w from if_neg (by omega)]; exact lp_push hr (by omega) (by omega) hb) | (rw [show rKeep G r c b w = rPush (rSh G r) r 7 c b w from if_pos (by omega)]; exact lp_push hr (show rSh G r r 14 = ((7 : Nat) : Int) from ug_at) (by omega) hb)
  · skip
    refine k_aload_n dX6_keepForUndo_9 rfl ?_
    refine k_getR dX6_keepForUndo_10 f_X6_43 (Rd.l0 hr) (Rd.o hr) (fun _ => rfl) ?_
    refine k_iconst dX6_keepForUndo_13 ?_
    refine k_aload_n dX6_keepForUndo_14 rfl ?_
    refine k_getR dX6_keepForUndo_15 f_X6_43 (Rd.l0 hr) (Rd.o hr) (fun _ => rfl) ?_
    refine k_iconst dX6_keepForUndo_18 ?_
    refine k_bipush dX6_keepForUndo_19 (by decide) ?_
    refine k_copy 1 0 7 dX6_keepForUndo_21 cp_X6_68 (Rd.l10 hr) (Rd.l10 hr) (Rd.a10 hr) (Rd.a10 hr) rfl rfl rfl (Nat.le_of_ble_eq_true rfl) (Nat.le_of_ble_eq_true rfl) ⟨by decide, by decide⟩ (fun h => by cases h) ⟨(Nat.le_of_ble_eq_true rfl), (Nat.le_of_ble_eq_true rfl)⟩ (Nat.le_of_ble_eq_true rfl) ?_
    refine k_aload_n dX6_keepForUndo_24 rfl ?_
    refine k_getR dX6_keepForUndo_25 f_X6_46 (Rd.l0 hr) (Rd.o hr) (fun _ => rfl) ?_
    refine k_iconst dX6_keepForUndo_28 ?_
    refine k_aload_n dX6_keepForUndo_29 rfl ?_
    refine k_getR dX6_keepForUndo_30 f_X6_46 (Rd.l0 hr) (Rd.o hr) (fun _ => rfl) ?_
    refine k_iconst dX6_keepForUndo_33 ?_
    refine k_bipush dX6_keepForUndo_34 (by decide) ?_
    refine k_copy 1 0 7 dX6_keepForUndo_36 cp_X6_68 (Rd.l11 hr) (Rd.l11 hr) (Rd.a11 hr) (Rd.a11 hr) rfl rfl rfl (Nat.le_of_ble_eq_true rfl) (Nat.le_of_ble_eq_true rfl) ⟨by decide, by decide⟩ (fun _ j => by rw [cg_nc (by omega)]; exact hz j) ⟨(Nat.le_of_ble_eq_true rfl), (Nat.le_of_ble_eq_true rfl)⟩ (Nat.le_of_ble_eq_true rfl) ?_
    refine k_aload_n dX6_keepForUndo_39 rfl ?_
    refine k_getR dX6_keepForUndo_40 f_X6_50 (Rd.l0 hr) (Rd.o hr) (fun _ => rfl) ?_
    refine k_iconst dX6_keepForUndo_43 ?_
    refine k_aload_n dX6_keepForUndo_44 rfl ?_
    refine k_getR dX6_keepForUndo_45 f_X6_50 (Rd.l0 hr) (Rd.o hr) (fun _ => rfl) ?_
    refine k_iconst dX6_keepForUndo_48 ?_
    refine k_bipush dX6_keepForUndo_49 (by decide) ?_
    refine k_copy 1 0 7 dX6_keepForUndo_51 cp_X6_68 (Rd.l12 hr) (Rd.l12 hr) (Rd.a12 hr) (Rd.a12 hr) rfl rfl rfl (Nat.le_of_ble_eq_true rfl) (Nat.le_of_ble_eq_true rfl) ⟨by decide, by decide⟩ (fun h => by cases h) ⟨(Nat.le_of_ble_eq_true rfl), (Nat.le_of_ble_eq_true rfl)⟩ (Nat.le_of_ble_eq_true rfl) ?_
    refine k_aload_n dX6_keepForUndo_54 rfl ?_
    refine k_bipush dX6_keepForUndo_55 (by decide) ?_
    refine k_putI dX6_keepForUndo_57 f_X6_65 (Rd.l0 hr) (Rd.o hr) (fun _ => (Nat.le_of_ble_eq_true rfl)) rfl (fun _ => by simp only [eq_self, true_and]; rfl) ?_
    first | (rw [show rKeep G r c b w = rPush G r (G r 14).toNat c b w from if_neg (by omega)]; exact lp_push hr (by omega) (by omega) hb) | (rw [show rKeep G r c b w = rPush (rSh G r) r 7 c b w from if_pos (by omega)]; exact lp_push hr (show rSh G r r 14 = ((7 : Nat) : Int) from ug_at) (by omega) hb)
theorem m_undoLast {G : Mem} {r : Nat} (hr : Rd r) (hn : 0 ≤ G r 14 ∧ G r 14 ≤ 8) (hz : ∀ j, G (r + 11) j = 0 ∨ G (r + 11) j = 1) (hc : ∀ j, 0 ≤ G (r + 10) j ∧ G (r + 10) j ≤ 5) : MP M_X6_undoLast [.ref r] G (vv (fun g => rUndo G r = g)) := by
  have hz1 := hz (G r 14 - 1).toNat
  have hc1 := hc (G r 14 - 1).toNat
  refine MP.of [some (.ref r), none] (plainFor_of_name pn_X6) (Nat.le_of_ble_eq_true rfl) rfl ?_
  refine k_aload_n dX6_undoLast_0 rfl ?_
  refine k_getI dX6_undoLast_1 f_X6_65 (Rd.l0 hr) (Rd.o hr) (fun _ => rfl) ?_
  try simp (disch := omega) only [ug_at, ug_nc, ug_np, cg_nc]
  refine k_if_gt 8 dX6_undoLast_4 (by decide) ⟨by omega, by omega⟩ (fun h4 => ?_) (fun h4 => ?_)
  · skip
    refine k_aload_n dX6_undoLast_8 rfl ?_
    refine k_dup dX6_undoLast_9 rfl ?_
    refine k_getI dX6_undoLast_10 f_X6_65 (Rd.l0 hr) (Rd.o hr) (fun _ => rfl) ?_
    try simp (disch := omega) only [ug_at, ug_nc, ug_np, cg_nc]
    refine k_iconst dX6_undoLast_13 ?_
    refine k_isub dX6_undoLast_14 ?_
    refine k_putI dX6_undoLast_15 f_X6_65 (Rd.l0 hr) (Rd.o hr) (fun _ => (Nat.le_of_ble_eq_true rfl)) rfl (fun _ => by simp only [eq_self, true_and]; rfl) ?_
    refine k_aload_n dX6_undoLast_18 rfl ?_
    refine k_getR dX6_undoLast_19 f_X6_46 (Rd.l0 hr) (Rd.o hr) (fun _ => rfl) ?_
    try simp (disch := omega) only [ug_at, ug_nc, ug_np, cg_nc]
    refine k_aload_n dX6_undoLast_22 rfl ?_
    refine k_getI dX6_undoLast_23 f_X6_65 (Rd.l0 hr) (Rd.o hr) (fun _ => rfl) ?_
    try simp (disch := omega) only [ug_at, ug_nc, ug_np, cg_nc]
    refine k_zald (G r 14 - 1).toNat dX6_undoLast_26 (Rd.l11 hr) (Rd.a11 hr) (by decide) (by omega) (by omega) ?_
    try simp (disch := omega) only [ug_at, ug_nc, ug_np, cg_nc]
    refine k_if_eq 37 dX6_undoLast_27 (by decide) ⟨by omega, by omega⟩ (fun h27 => ?_) (fun h27 => ?_)
    · skip
      refine k_aload_n dX6_undoLast_37 rfl ?_
      refine k_getR dX6_undoLast_38 f_X6_22 (Rd.l0 hr) (Rd.o hr) (fun _ => rfl) ?_
      try simp (disch := omega) only [ug_at, ug_nc, ug_np, cg_nc]
      refine k_astore_n (L' := [_, _]) dX6_undoLast_41 (Nat.le_of_ble_eq_true rfl) rfl ?_
      refine k_aload_n dX6_undoLast_42 rfl ?_
      refine k_aload_n dX6_undoLast_43 rfl ?_
      refine k_getR dX6_undoLast_44 f_X6_43 (Rd.l0 hr) (Rd.o hr) (fun _ => rfl) ?_
      try simp (disch := omega) only [ug_at, ug_nc, ug_np, cg_nc]
      refine k_aload_n dX6_undoLast_47 rfl ?_
      refine k_getI dX6_undoLast_48 f_X6_65 (Rd.l0 hr) (Rd.o hr) (fun _ => rfl) ?_
      try simp (disch := omega) only [ug_at, ug_nc, ug_np, cg_nc]
      refine k_iald (G r 14 - 1).toNat dX6_undoLast_51 (Rd.l10 hr) (Rd.a10 hr) (by decide) (by omega) (by omega) ?_
      try simp (disch := omega) only [ug_at, ug_nc, ug_np, cg_nc]
      refine k_aload_n dX6_undoLast_52 rfl ?_
      refine k_getR dX6_undoLast_53 f_X6_50 (Rd.l0 hr) (Rd.o hr) (fun _ => rfl) ?_
      try simp (disch := omega) only [ug_at, ug_nc, ug_np, cg_nc]
      refine k_aload_n dX6_undoLast_56 rfl ?_
      refine k_getI dX6_undoLast_57 f_X6_65 (Rd.l0 hr) (Rd.o hr) (fun _ => rfl) ?_
      try simp (disch := omega) only [ug_at, ug_nc, ug_np, cg_nc]
      refine k_iald (G r 14 - 1).toNat dX6_undoLast_60 (Rd.l12 hr) (Rd.a12 hr) (by decide) (by omega) (by omega) ?_
      try simp (disch := omega) only [ug_at, ug_nc, ug_np, cg_nc]
      refine k_iast (G (r + 10) (G r 14 - 1).toNat).toNat dX6_undoLast_61 (Rd.l3 hr) (Rd.a3 hr) (by decide) (by omega) (by omega) ?_
      exact k_ret dX6_undoLast_62 rfl ⟨rfl, by unfold rUndo; first | (rw [if_pos (by omega)]; done) | (rw [if_neg (by omega), if_pos (by omega)]; done) | (rw [if_neg (by omega), if_neg (by omega)]; done)⟩
    · skip
      refine k_aload_n dX6_undoLast_30 rfl ?_
      refine k_getR dX6_undoLast_31 f_X6_28 (Rd.l0 hr) (Rd.o hr) (fun _ => rfl) ?_
      try simp (disch := omega) only [ug_at, ug_nc, ug_np, cg_nc]
      refine k_goto 41 dX6_undoLast_34 (by decide) ?_
      try simp (disch := omega) only [ug_at, ug_nc, ug_np, cg_nc]
      refine k_astore_n (L' := [_, _]) dX6_undoLast_41 (Nat.le_of_ble_eq_true rfl) rfl ?_
      refine k_aload_n dX6_undoLast_42 rfl ?_
      refine k_aload_n dX6_undoLast_43 rfl ?_
      refine k_getR dX6_undoLast_44 f_X6_43 (Rd.l0 hr) (Rd.o hr) (fun _ => rfl) ?_
      try simp (disch := omega) only [ug_at, ug_nc, ug_np, cg_nc]
      refine k_aload_n dX6_undoLast_47 rfl ?_
      refine k_getI dX6_undoLast_48 f_X6_65 (Rd.l0 hr) (Rd.o hr) (fun _ => rfl) ?_
      try simp (disch := omega) only [ug_at, ug_nc, ug_np, cg_nc]
      refine k_iald (G r 14 - 1).toNat dX6_undoLast_51 (Rd.l10 hr) (Rd.a10 hr) (by decide) (by omega) (by omega) ?_
      try simp (disch := omega) only [ug_at, ug_nc, ug_np, cg_nc]
      refine k_aload_n dX6_undoLast_52 rfl ?_
      refine k_getR dX6_undoLast_53 f_X6_50 (Rd.l0 hr) (Rd.o hr) (fun _ => rfl) ?_
      try simp (disch := omega) only [ug_at, ug_nc, ug_np, cg_nc]
      refine k_aload_n dX6_undoLast_56 rfl ?_
      refine k_getI dX6_undoLast_57 f_X6_65 (Rd.l0 hr) (Rd.o hr) (fun _ => rfl) ?_
      try simp (disch := omega) only [ug_at, ug_nc, ug_np, cg_nc]
      refine k_iald (G r 14 - 1).toNat dX6_undoLast_60 (Rd.l12 hr) (Rd.a12 hr) (by decide) (by omega) (by omega) ?_
      try simp (disch := omega) only [ug_at, ug_nc, ug_np, cg_nc]
      refine k_iast (G (r + 10) (G r 14 - 1).toNat).toNat dX6_undoLast_61 (Rd.l5 hr) (Rd.a5 hr) (by decide) (by omega) (by omega) ?_
      exact k_ret dX6_undoLast_62 rfl ⟨rfl, by unfold rUndo; first | (rw [if_pos (by omega)]; done) | (rw [if_neg (by omega), if_pos (by omega)]; done) | (rw [if_neg (by omega), if_neg (by omega)]; done)⟩
  · skip
    exact k_ret dX6_undoLast_7 rfl ⟨rfl, by unfold rUndo; first | (rw [if_pos (by omega)]; done) | (rw [if_neg (by omega), if_pos (by omega)]; done) | (rw [if_neg (by omega), if_neg (by omega)]; done)⟩
/-! ===== a road copied ===== -/
theorem cg_row {G : Mem} {a b n y : Nat} : cg G a 0 b 0 n b y = if y < n then G a y else G b y := by
  unfold cg
  by_cases h : y < n
  · rw [if_pos ⟨rfl, by omega, by omega⟩, if_pos h, show 0 + (y - 0) = y by omega]
  · rw [if_neg (fun q => h (by omega)), if_neg h]
def rCopy (G : Mem) (r q : Nat) : Mem := (cg (cg (cg (ug (cg (cg (cg (ug (cg (ug (cg (cg (cg (cg (cg (ug (ug (ug G r 0 (G q 0)) r 1 (G q 1)) r 2 (G q 2)) (q + 1) 0 (r + 1) 0 6) (q + 2) 0 (r + 2) 0 6) (q + 3) 0 (r + 3) 0 6) (q + 4) 0 (r + 4) 0 6) (q + 5) 0 (r + 5) 0 6) r 8 (G q 8)) (q + 6) 0 (r + 6) 0 20) r 10 (G q 10)) (q + 7) 0 (r + 7) 0 6) (q + 8) 0 (r + 8) 0 6) (q + 9) 0 (r + 9) 0 6) r 14 (G q 14)) (q + 10) 0 (r + 10) 0 8) (q + 11) 0 (r + 11) 0 8) (q + 12) 0 (r + 12) 0 8)
def zl : Nat → Nat
  | 0 => 15
  | 6 => 20
  | 10 => 8
  | 11 => 8
  | 12 => 8
  | _ => 6
/-- nothing lies behind the rows' ends -/
def Zr (V : Mem) : Prop := ∀ a b, a ≤ 12 → (zl a ≤ b ∨ (a = 0 ∧ b ≠ 0 ∧ b ≠ 1 ∧ b ≠ 2 ∧ b ≠ 8 ∧ b ≠ 10 ∧ b ≠ 14)) → V a b = 0
theorem rCopy_ne {G : Mem} {r q x b : Nat} (h : x < r ∨ r + 12 < x) : rCopy G r q x b = G x b := by
  unfold rCopy
  simp (disch := omega) only [ug_nc, cg_nc]
theorem rCopy_at {G : Mem} {r q : Nat} (h : r + 12 < q ∨ q + 12 < r) (z1 : Zr (rv G r)) (z2 : Zr (rv G q)) (a b : Nat) (ha : a ≤ 12) : rCopy G r q (r + a) b = G (q + a) b := by
  have zz : ∀ n, zl a = n → n ≤ b → G (r + a) b = G (q + a) b := fun n hn hb => (z1 a b ha (Or.inl (by omega))).trans (z2 a b ha (Or.inl (by omega))).symm
  unfold rCopy
  match a, ha with
  | 0, _ =>
    by_cases e0 : b = 0
    · subst e0; simp (disch := omega) only [ug_nc, cg_nc, ug_np, Nat.add_zero]; exact ug_at
    by_cases e1 : b = 1
    · subst e1; simp (disch := omega) only [ug_nc, cg_nc, ug_np, Nat.add_zero]; exact ug_at
    by_cases e2 : b = 2
    · subst e2; simp (disch := omega) only [ug_nc, cg_nc, ug_np, Nat.add_zero]; exact ug_at
    by_cases e3 : b = 8
    · subst e3; simp (disch := omega) only [ug_nc, cg_nc, ug_np, Nat.add_zero]; exact ug_at
    by_cases e4 : b = 10
    · subst e4; simp (disch := omega) only [ug_nc, cg_nc, ug_np, Nat.add_zero]; exact ug_at
    by_cases e5 : b = 14
    · subst e5; simp (disch := omega) only [ug_nc, cg_nc, ug_np, Nat.add_zero]; exact ug_at
    have w1 : G (r + 0) b = 0 := z1 0 b (by omega) (Or.inr ⟨rfl, e0, e1, e2, e3, e4, e5⟩)
    have w2 : G (q + 0) b = 0 := z2 0 b (by omega) (Or.inr ⟨rfl, e0, e1, e2, e3, e4, e5⟩)
    simp (disch := omega) only [ug_nc, cg_nc, ug_np]
    rw [w1, w2]
  | 1, _ =>
    simp (disch := omega) only [ug_nc, cg_nc, cg_row]
    split
    · simp (disch := omega) only [ug_nc, cg_nc]
    · exact zz 6 rfl (by omega)
  | 2, _ =>
    simp (disch := omega) only [ug_nc, cg_nc, cg_row]
    split
    · simp (disch := omega) only [ug_nc, cg_nc]
    · exact zz 6 rfl (by omega)
  | 3, _ =>
    simp (disch := omega) only [ug_nc, cg_nc, cg_row]
    split
    · simp (disch := omega) only [ug_nc, cg_nc]
    · exact zz 6 rfl (by omega)
  | 4, _ =>
    simp (disch := omega) only [ug_nc, cg_nc, cg_row]
    split
    · simp (disch := omega) only [ug_nc, cg_nc]
    · exact zz 6 rfl (by omega)
  | 5, _ =>
    simp (disch := omega) only [ug_nc, cg_nc, cg_row]
    split
    · simp (disch := omega) only [ug_nc, cg_nc]
    · exact zz 6 rfl (by omega)
  | 6, _ =>
    simp (disch := omega) only [ug_nc, cg_nc, cg_row]
    split
    · simp (disch := omega) only [ug_nc, cg_nc]
    · exact zz 20 rfl (by omega)
  | 7, _ =>
    simp (disch := omega) only [ug_nc, cg_nc, cg_row]
    split
    · simp (disch := omega) only [ug_nc, cg_nc]
    · exact zz 6 rfl (by omega)
  | 8, _ =>
    simp (disch := omega) only [ug_nc, cg_nc, cg_row]
    split
    · simp (disch := omega) only [ug_nc, cg_nc]
    · exact zz 6 rfl (by omega)
  | 9, _ =>
    simp (disch := omega) only [ug_nc, cg_nc, cg_row]
    split
    · simp (disch := omega) only [ug_nc, cg_nc]
    · exact zz 6 rfl (by omega)
  | 10, _ =>
    simp (disch := omega) only [ug_nc, cg_nc, cg_row]
    split
    · simp (disch := omega) only [ug_nc, cg_nc]
    · exact zz 8 rfl (by omega)
  | 11, _ =>
    simp (disch := omega) only [ug_nc, cg_nc, cg_row]
    split
    · simp (disch := omega) only [ug_nc, cg_nc]
    · exact zz 8 rfl (by omega)
  | 12, _ =>
    simp (disch := omega) only [ug_nc, cg_nc, cg_row]
    split
    · simp (disch := omega) only [ug_nc, cg_nc]
    · exact zz 8 rfl (by omega)
theorem m_copyFrom {G : Mem} {r q : Nat} (hr : Rd r) (hq : Rd q) (hrq : r + 12 < q ∨ q + 12 < r) (hz : ∀ j, G (q + 11) j = 0 ∨ G (q + 11) j = 1) : MP M_X6_copyFrom [.ref r, .ref q] G (vv (fun g => rCopy G r q = g)) := by
  refine MP.of [some (.ref r), some (.ref q)] (plainFor_of_name pn_X6) (Nat.le_of_ble_eq_true rfl) rfl ?_
  refine k_aload_n dX6_copyFrom_0 rfl ?_
  refine k_aload_n dX6_copyFrom_1 rfl ?_
  refine k_getI dX6_copyFrom_2 f_X6_9 (Rd.l0 hq) (Rd.o hq) (fun _ => rfl) ?_
  try simp (disch := omega) only [ug_at, ug_nc, ug_np, cg_nc]
  refine k_putI dX6_copyFrom_5 f_X6_9 (Rd.l0 hr) (Rd.o hr) (fun _ => (Nat.le_of_ble_eq_true rfl)) rfl (fun _ => by simp only [eq_self, true_and]; rfl) ?_
  refine k_aload_n dX6_copyFrom_8 rfl ?_
  refine k_aload_n dX6_copyFrom_9 rfl ?_
  refine k_getI dX6_copyFrom_10 f_X6_53 (Rd.l0 hq) (Rd.o hq) (fun _ => rfl) ?_
  try simp (disch := omega) only [ug_at, ug_nc, ug_np, cg_nc]
  refine k_putI dX6_copyFrom_13 f_X6_53 (Rd.l0 hr) (Rd.o hr) (fun _ => (Nat.le_of_ble_eq_true rfl)) rfl (fun _ => by simp only [eq_self, true_and]; rfl) ?_
  refine k_aload_n dX6_copyFrom_16 rfl ?_
  refine k_aload_n dX6_copyFrom_17 rfl ?_
  refine k_getI dX6_copyFrom_18 f_X6_56 (Rd.l0 hq) (Rd.o hq) (fun _ => rfl) ?_
  try simp (disch := omega) only [ug_at, ug_nc, ug_np, cg_nc]
  refine k_putI dX6_copyFrom_21 f_X6_56 (Rd.l0 hr) (Rd.o hr) (fun _ => (Nat.le_of_ble_eq_true rfl)) rfl (fun _ => by simp only [eq_self, true_and]; rfl) ?_
  refine k_aload_n dX6_copyFrom_24 rfl ?_
  refine k_getR dX6_copyFrom_25 f_X6_15 (Rd.l0 hq) (Rd.o hq) (fun _ => rfl) ?_
  try simp (disch := omega) only [ug_at, ug_nc, ug_np, cg_nc]
  refine k_iconst dX6_copyFrom_28 ?_
  refine k_aload_n dX6_copyFrom_29 rfl ?_
  refine k_getR dX6_copyFrom_30 f_X6_15 (Rd.l0 hr) (Rd.o hr) (fun _ => rfl) ?_
  try simp (disch := omega) only [ug_at, ug_nc, ug_np, cg_nc]
  refine k_iconst dX6_copyFrom_33 ?_
  refine k_bipush dX6_copyFrom_34 (by decide) ?_
  refine k_copy 0 0 6 dX6_copyFrom_36 cp_X6_68 (Rd.l1 hq) (Rd.l1 hr) (Rd.a1 hq) (Rd.a1 hr) rfl rfl rfl (Nat.le_of_ble_eq_true rfl) (Nat.le_of_ble_eq_true rfl) ⟨by decide, by decide⟩ (fun h => by cases h) ⟨(Nat.le_of_ble_eq_true rfl), (Nat.le_of_ble_eq_true rfl)⟩ (Nat.le_of_ble_eq_true rfl) ?_
  refine k_aload_n dX6_copyFrom_39 rfl ?_
  refine k_getR dX6_copyFrom_40 f_X6_19 (Rd.l0 hq) (Rd.o hq) (fun _ => rfl) ?_
  try simp (disch := omega) only [ug_at, ug_nc, ug_np, cg_nc]
  refine k_iconst dX6_copyFrom_43 ?_
  refine k_aload_n dX6_copyFrom_44 rfl ?_
  refine k_getR dX6_copyFrom_45 f_X6_19 (Rd.l0 hr) (Rd.o hr) (fun _ => rfl) ?_
  try simp (disch := omega) only [ug_at, ug_nc, ug_np, cg_nc]
  refine k_iconst dX6_copyFrom_48 ?_
  refine k_bipush dX6_copyFrom_49 (by decide) ?_
  refine k_copy 0 0 6 dX6_copyFrom_51 cp_X6_68 (Rd.l2 hq) (Rd.l2 hr) (Rd.a2 hq) (Rd.a2 hr) rfl rfl rfl (Nat.le_of_ble_eq_true rfl) (Nat.le_of_ble_eq_true rfl) ⟨by decide, by decide⟩ (fun h => by cases h) ⟨(Nat.le_of_ble_eq_true rfl), (Nat.le_of_ble_eq_true rfl)⟩ (Nat.le_of_ble_eq_true rfl) ?_
  refine k_aload_n dX6_copyFrom_54 rfl ?_
  refine k_getR dX6_copyFrom_55 f_X6_22 (Rd.l0 hq) (Rd.o hq) (fun _ => rfl) ?_
  try simp (disch := omega) only [ug_at, ug_nc, ug_np, cg_nc]
  refine k_iconst dX6_copyFrom_58 ?_
  refine k_aload_n dX6_copyFrom_59 rfl ?_
  refine k_getR dX6_copyFrom_60 f_X6_22 (Rd.l0 hr) (Rd.o hr) (fun _ => rfl) ?_
  try simp (disch := omega) only [ug_at, ug_nc, ug_np, cg_nc]
  refine k_iconst dX6_copyFrom_63 ?_
  refine k_bipush dX6_copyFrom_64 (by decide) ?_
  refine k_copy 0 0 6 dX6_copyFrom_66 cp_X6_68 (Rd.l3 hq) (Rd.l3 hr) (Rd.a3 hq) (Rd.a3 hr) rfl rfl rfl (Nat.le_of_ble_eq_true rfl) (Nat.le_of_ble_eq_true rfl) ⟨by decide, by decide⟩ (fun h => by cases h) ⟨(Nat.le_of_ble_eq_true rfl), (Nat.le_of_ble_eq_true rfl)⟩ (Nat.le_of_ble_eq_true rfl) ?_
  refine k_aload_n dX6_copyFrom_69 rfl ?_
  refine k_getR dX6_copyFrom_70 f_X6_25 (Rd.l0 hq) (Rd.o hq) (fun _ => rfl) ?_
  try simp (disch := omega) only [ug_at, ug_nc, ug_np, cg_nc]
  refine k_iconst dX6_copyFrom_73 ?_
  refine k_aload_n dX6_copyFrom_74 rfl ?_
  refine k_getR dX6_copyFrom_75 f_X6_25 (Rd.l0 hr) (Rd.o hr) (fun _ => rfl) ?_
  try simp (disch := omega) only [ug_at, ug_nc, ug_np, cg_nc]
  refine k_iconst dX6_copyFrom_78 ?_
  refine k_bipush dX6_copyFrom_79 (by decide) ?_
  refine k_copy 0 0 6 dX6_copyFrom_81 cp_X6_68 (Rd.l4 hq) (Rd.l4 hr) (Rd.a4 hq) (Rd.a4 hr) rfl rfl rfl (Nat.le_of_ble_eq_true rfl) (Nat.le_of_ble_eq_true rfl) ⟨by decide, by decide⟩ (fun h => by cases h) ⟨(Nat.le_of_ble_eq_true rfl), (Nat.le_of_ble_eq_true rfl)⟩ (Nat.le_of_ble_eq_true rfl) ?_
  refine k_aload_n dX6_copyFrom_84 rfl ?_
  refine k_getR dX6_copyFrom_85 f_X6_28 (Rd.l0 hq) (Rd.o hq) (fun _ => rfl) ?_
  try simp (disch := omega) only [ug_at, ug_nc, ug_np, cg_nc]
  refine k_iconst dX6_copyFrom_88 ?_
  refine k_aload_n dX6_copyFrom_89 rfl ?_
  refine k_getR dX6_copyFrom_90 f_X6_28 (Rd.l0 hr) (Rd.o hr) (fun _ => rfl) ?_
  try simp (disch := omega) only [ug_at, ug_nc, ug_np, cg_nc]
  refine k_iconst dX6_copyFrom_93 ?_
  refine k_bipush dX6_copyFrom_94 (by decide) ?_
  refine k_copy 0 0 6 dX6_copyFrom_96 cp_X6_68 (Rd.l5 hq) (Rd.l5 hr) (Rd.a5 hq) (Rd.a5 hr) rfl rfl rfl (Nat.le_of_ble_eq_true rfl) (Nat.le_of_ble_eq_true rfl) ⟨by decide, by decide⟩ (fun h => by cases h) ⟨(Nat.le_of_ble_eq_true rfl), (Nat.le_of_ble_eq_true rfl)⟩ (Nat.le_of_ble_eq_true rfl) ?_
  refine k_aload_n dX6_copyFrom_99 rfl ?_
  refine k_aload_n dX6_copyFrom_100 rfl ?_
  refine k_getI dX6_copyFrom_101 f_X6_59 (Rd.l0 hq) (Rd.o hq) (fun _ => rfl) ?_
  try simp (disch := omega) only [ug_at, ug_nc, ug_np, cg_nc]
  refine k_putI dX6_copyFrom_104 f_X6_59 (Rd.l0 hr) (Rd.o hr) (fun _ => (Nat.le_of_ble_eq_true rfl)) rfl (fun _ => by simp only [eq_self, true_and]; rfl) ?_
  refine k_aload_n dX6_copyFrom_107 rfl ?_
  refine k_getR dX6_copyFrom_108 f_X6_31 (Rd.l0 hq) (Rd.o hq) (fun _ => rfl) ?_
  try simp (disch := omega) only [ug_at, ug_nc, ug_np, cg_nc]
  refine k_iconst dX6_copyFrom_111 ?_
  refine k_aload_n dX6_copyFrom_112 rfl ?_
  refine k_getR dX6_copyFrom_113 f_X6_31 (Rd.l0 hr) (Rd.o hr) (fun _ => rfl) ?_
  try simp (disch := omega) only [ug_at, ug_nc, ug_np, cg_nc]
  refine k_iconst dX6_copyFrom_116 ?_
  refine k_bipush dX6_copyFrom_117 (by decide) ?_
  refine k_copy 0 0 20 dX6_copyFrom_119 cp_X6_68 (Rd.l6 hq) (Rd.l6 hr) (Rd.a6 hq) (Rd.a6 hr) rfl rfl rfl (Nat.le_of_ble_eq_true rfl) (Nat.le_of_ble_eq_true rfl) ⟨by decide, by decide⟩ (fun h => by cases h) ⟨(Nat.le_of_ble_eq_true rfl), (Nat.le_of_ble_eq_true rfl)⟩ (Nat.le_of_ble_eq_true rfl) ?_
  refine k_aload_n dX6_copyFrom_122 rfl ?_
  refine k_aload_n dX6_copyFrom_123 rfl ?_
  refine k_getI dX6_copyFrom_124 f_X6_62 (Rd.l0 hq) (Rd.o hq) (fun _ => rfl) ?_
  try simp (disch := omega) only [ug_at, ug_nc, ug_np, cg_nc]
  refine k_putI dX6_copyFrom_127 f_X6_62 (Rd.l0 hr) (Rd.o hr) (fun _ => (Nat.le_of_ble_eq_true rfl)) rfl (fun _ => by simp only [eq_self, true_and]; rfl) ?_
  refine k_aload_n dX6_copyFrom_130 rfl ?_
  refine k_getR dX6_copyFrom_131 f_X6_34 (Rd.l0 hq) (Rd.o hq) (fun _ => rfl) ?_
  try simp (disch := omega) only [ug_at, ug_nc, ug_np, cg_nc]
  refine k_iconst dX6_copyFrom_134 ?_
  refine k_aload_n dX6_copyFrom_135 rfl ?_
  refine k_getR dX6_copyFrom_136 f_X6_34 (Rd.l0 hr) (Rd.o hr) (fun _ => rfl) ?_
  try simp (disch := omega) only [ug_at, ug_nc, ug_np, cg_nc]
  refine k_iconst dX6_copyFrom_139 ?_
  refine k_bipush dX6_copyFrom_140 (by decide) ?_
  refine k_copy 0 0 6 dX6_copyFrom_142 cp_X6_68 (Rd.l7 hq) (Rd.l7 hr) (Rd.a7 hq) (Rd.a7 hr) rfl rfl rfl (Nat.le_of_ble_eq_true rfl) (Nat.le_of_ble_eq_true rfl) ⟨by decide, by decide⟩ (fun h => by cases h) ⟨(Nat.le_of_ble_eq_true rfl), (Nat.le_of_ble_eq_true rfl)⟩ (Nat.le_of_ble_eq_true rfl) ?_
  refine k_aload_n dX6_copyFrom_145 rfl ?_
  refine k_getR dX6_copyFrom_146 f_X6_37 (Rd.l0 hq) (Rd.o hq) (fun _ => rfl) ?_
  try simp (disch := omega) only [ug_at, ug_nc, ug_np, cg_nc]
  refine k_iconst dX6_copyFrom_149 ?_
  refine k_aload_n dX6_copyFrom_150 rfl ?_
  refine k_getR dX6_copyFrom_151 f_X6_37 (Rd.l0 hr) (Rd.o hr) (fun _ => rfl) ?_
  try simp (disch := omega) only [ug_at, ug_nc, ug_np, cg_nc]
  refine k_iconst dX6_copyFrom_154 ?_
  refine k_bipush dX6_copyFrom_155 (by decide) ?_
  refine k_copy 0 0 6 dX6_copyFrom_157 cp_X6_68 (Rd.l8 hq) (Rd.l8 hr) (Rd.a8 hq) (Rd.a8 hr) rfl rfl rfl (Nat.le_of_ble_eq_true rfl) (Nat.le_of_ble_eq_true rfl) ⟨by decide, by decide⟩ (fun h => by cases h) ⟨(Nat.le_of_ble_eq_true rfl), (Nat.le_of_ble_eq_true rfl)⟩ (Nat.le_of_ble_eq_true rfl) ?_
  refine k_aload_n dX6_copyFrom_160 rfl ?_
  refine k_getR dX6_copyFrom_161 f_X6_40 (Rd.l0 hq) (Rd.o hq) (fun _ => rfl) ?_
  try simp (disch := omega) only [ug_at, ug_nc, ug_np, cg_nc]
  refine k_iconst dX6_copyFrom_164 ?_
  refine k_aload_n dX6_copyFrom_165 rfl ?_
  refine k_getR dX6_copyFrom_166 f_X6_40 (Rd.l0 hr) (Rd.o hr) (fun _ => rfl) ?_
  try simp (disch := omega) only [ug_at, ug_nc, ug_np, cg_nc]
  refine k_iconst dX6_copyFrom_169 ?_
  refine k_bipush dX6_copyFrom_170 (by decide) ?_
  refine k_copy 0 0 6 dX6_copyFrom_172 cp_X6_68 (Rd.l9 hq) (Rd.l9 hr) (Rd.a9 hq) (Rd.a9 hr) rfl rfl rfl (Nat.le_of_ble_eq_true rfl) (Nat.le_of_ble_eq_true rfl) ⟨by decide, by decide⟩ (fun h => by cases h) ⟨(Nat.le_of_ble_eq_true rfl), (Nat.le_of_ble_eq_true rfl)⟩ (Nat.le_of_ble_eq_true rfl) ?_
  refine k_aload_n dX6_copyFrom_175 rfl ?_
  refine k_aload_n dX6_copyFrom_176 rfl ?_
  refine k_getI dX6_copyFrom_177 f_X6_65 (Rd.l0 hq) (Rd.o hq) (fun _ => rfl) ?_
  try simp (disch := omega) only [ug_at, ug_nc, ug_np, cg_nc]
  refine k_putI dX6_copyFrom_180 f_X6_65 (Rd.l0 hr) (Rd.o hr) (fun _ => (Nat.le_of_ble_eq_true rfl)) rfl (fun _ => by simp only [eq_self, true_and]; rfl) ?_
  refine k_aload_n dX6_copyFrom_183 rfl ?_
  refine k_getR dX6_copyFrom_184 f_X6_43 (Rd.l0 hq) (Rd.o hq) (fun _ => rfl) ?_
  try simp (disch := omega) only [ug_at, ug_nc, ug_np, cg_nc]
  refine k_iconst dX6_copyFrom_187 ?_
  refine k_aload_n dX6_copyFrom_188 rfl ?_
  refine k_getR dX6_copyFrom_189 f_X6_43 (Rd.l0 hr) (Rd.o hr) (fun _ => rfl) ?_
  try simp (disch := omega) only [ug_at, ug_nc, ug_np, cg_nc]
  refine k_iconst dX6_copyFrom_192 ?_
  refine k_bipush dX6_copyFrom_193 (by decide) ?_
  refine k_copy 0 0 8 dX6_copyFrom_195 cp_X6_68 (Rd.l10 hq) (Rd.l10 hr) (Rd.a10 hq) (Rd.a10 hr) rfl rfl rfl (Nat.le_of_ble_eq_true rfl) (Nat.le_of_ble_eq_true rfl) ⟨by decide, by decide⟩ (fun h => by cases h) ⟨(Nat.le_of_ble_eq_true rfl), (Nat.le_of_ble_eq_true rfl)⟩ (Nat.le_of_ble_eq_true rfl) ?_
  refine k_aload_n dX6_copyFrom_198 rfl ?_
  refine k_getR dX6_copyFrom_199 f_X6_46 (Rd.l0 hq) (Rd.o hq) (fun _ => rfl) ?_
  try simp (disch := omega) only [ug_at, ug_nc, ug_np, cg_nc]
  refine k_iconst dX6_copyFrom_202 ?_
  refine k_aload_n dX6_copyFrom_203 rfl ?_
  refine k_getR dX6_copyFrom_204 f_X6_46 (Rd.l0 hr) (Rd.o hr) (fun _ => rfl) ?_
  try simp (disch := omega) only [ug_at, ug_nc, ug_np, cg_nc]
  refine k_iconst dX6_copyFrom_207 ?_
  refine k_bipush dX6_copyFrom_208 (by decide) ?_
  refine k_copy 0 0 8 dX6_copyFrom_210 cp_X6_68 (Rd.l11 hq) (Rd.l11 hr) (Rd.a11 hq) (Rd.a11 hr) rfl rfl rfl (Nat.le_of_ble_eq_true rfl) (Nat.le_of_ble_eq_true rfl) ⟨by decide, by decide⟩ (fun _ j => by simp (disch := omega) only [ug_nc, cg_nc]; exact hz j) ⟨(Nat.le_of_ble_eq_true rfl), (Nat.le_of_ble_eq_true rfl)⟩ (Nat.le_of_ble_eq_true rfl) ?_
  refine k_aload_n dX6_copyFrom_213 rfl ?_
  refine k_getR dX6_copyFrom_214 f_X6_50 (Rd.l0 hq) (Rd.o hq) (fun _ => rfl) ?_
  try simp (disch := omega) only [ug_at, ug_nc, ug_np, cg_nc]
  refine k_iconst dX6_copyFrom_217 ?_
  refine k_aload_n dX6_copyFrom_218 rfl ?_
  refine k_getR dX6_copyFrom_219 f_X6_50 (Rd.l0 hr) (Rd.o hr) (fun _ => rfl) ?_
  try simp (disch := omega) only [ug_at, ug_nc, ug_np, cg_nc]
  refine k_iconst dX6_copyFrom_222 ?_
  refine k_bipush dX6_copyFrom_223 (by decide) ?_
  refine k_copy 0 0 8 dX6_copyFrom_225 cp_X6_68 (Rd.l12 hq) (Rd.l12 hr) (Rd.a12 hq) (Rd.a12 hr) rfl rfl rfl (Nat.le_of_ble_eq_true rfl) (Nat.le_of_ble_eq_true rfl) ⟨by decide, by decide⟩ (fun h => by cases h) ⟨(Nat.le_of_ble_eq_true rfl), (Nat.le_of_ble_eq_true rfl)⟩ (Nat.le_of_ble_eq_true rfl) ?_
  exact k_ret dX6_copyFrom_228 rfl ⟨rfl, rfl⟩
/-! ===== a road's digest ===== -/
def dgC (V : Mem) (h : Int) : Nat → Int
  | 0 => h
  | i + 1 => 31 * (31 * (31 * (31 * (31 * dgC V h i + V 1 i) + V 2 i) + V 3 i) + V 4 i) + V 5 i
def dgS (V : Mem) (h : Int) : Nat → Int
  | 0 => h
  | i + 1 => 31 * dgS V h i + V 6 i
def dgR (V : Mem) (h : Int) : Nat → Int
  | 0 => h
  | i + 1 => 31 * (31 * (31 * dgR V h i + V 7 i) + V 8 i) + V 9 i
def vDg (V : Mem) (h : Int) : Int := dgR V (dgS V (dgC V h (V 0 2).toNat) (V 0 8).toNat) (V 0 10).toNat
theorem lp_dgR {G : Mem} {r : Nat} (hr : Rd r) (hV : Vok (rv G r)) (hS : Sok (rv G r)) (hD : Dok (rv G r)) {h : Int}  : ∀ i : Nat, i ≤ (G r 10).toNat → RP M_X6_digestOn 131 [some (.ref r), some (.long (lI h)), none, some (.long (lI (dgR (rv G r) (dgS (rv G r) (dgC (rv G r) h (G r 2).toNat) (G r 8).toNat) i))), none, some (.int (iI (i : Int)))] [] G (vl fun v g => vDg (rv G r) h = v ∧ G = g) := by
  have hn2 : 0 ≤ G r 2 ∧ G r 2 ≤ 6 := hV.2.2.1
  have hn8 : 0 ≤ G r 8 ∧ G r 8 ≤ 20 := hS.1
  have hn10 : 0 ≤ G r 10 ∧ G r 10 ≤ 6 := hD.1
  refine cnt ?_ (fun i hi ih => ?_)
  · skip
    refine k_iload dX6_digestOn_131 rfl ?_
    refine k_aload_n dX6_digestOn_133 rfl ?_
    refine k_getI dX6_digestOn_134 f_X6_62 (Rd.l0 hr) (Rd.o hr) (fun _ => rfl) ?_
    refine k_icmp_ge 191 dX6_digestOn_137 (by decide) ⟨by omega, by omega⟩ ⟨by omega, by omega⟩ (fun h137 => ?_) (fun h137 => absurd h137 (by omega))
    refine k_lload_n dX6_digestOn_191 rfl ?_
    exact k_lret dX6_digestOn_192 rfl ⟨_, rfl, rfl, rfl⟩
  · skip
    have hv : (0 ≤ G (r + 7) i ∧ G (r + 7) i ≤ 47) ∧ (0 ≤ G (r + 8) i ∧ G (r + 8) i ≤ 59) ∧ (0 ≤ G (r + 9) i ∧ G (r + 9) i ≤ 9) := hD.2 i
    refine k_iload dX6_digestOn_131 rfl ?_
    refine k_aload_n dX6_digestOn_133 rfl ?_
    refine k_getI dX6_digestOn_134 f_X6_62 (Rd.l0 hr) (Rd.o hr) (fun _ => rfl) ?_
    refine k_icmp_ge 191 dX6_digestOn_137 (by decide) ⟨by omega, by omega⟩ ⟨by omega, by omega⟩ (fun h137 => absurd h137 (by omega)) (fun h137 => ?_)
    refine k_ldc2 31 dX6_digestOn_140 w_820 ?_
    refine k_lload_n dX6_digestOn_143 rfl ?_
    refine k_lmul dX6_digestOn_144 ?_
    refine k_aload_n dX6_digestOn_145 rfl ?_
    refine k_getR dX6_digestOn_146 f_X6_34 (Rd.l0 hr) (Rd.o hr) (fun _ => rfl) ?_
    refine k_iload dX6_digestOn_149 rfl ?_
    refine k_iald i dX6_digestOn_151 (Rd.l7 hr) (Rd.a7 hr) (by decide) (by omega) (by omega) ?_
    refine k_i2l dX6_digestOn_152 ⟨by omega, by omega⟩ ?_
    refine k_ladd dX6_digestOn_153 ?_
    refine k_lstore_n (L' := [_, _, _, _, _, _]) dX6_digestOn_154 (Nat.le_of_ble_eq_true rfl) rfl ?_
    refine k_ldc2 31 dX6_digestOn_155 w_820 ?_
    refine k_lload_n dX6_digestOn_158 rfl ?_
    refine k_lmul dX6_digestOn_159 ?_
    refine k_aload_n dX6_digestOn_160 rfl ?_
    refine k_getR dX6_digestOn_161 f_X6_37 (Rd.l0 hr) (Rd.o hr) (fun _ => rfl) ?_
    refine k_iload dX6_digestOn_164 rfl ?_
    refine k_iald i dX6_digestOn_166 (Rd.l8 hr) (Rd.a8 hr) (by decide) (by omega) (by omega) ?_
    refine k_i2l dX6_digestOn_167 ⟨by omega, by omega⟩ ?_
    refine k_ladd dX6_digestOn_168 ?_
    refine k_lstore_n (L' := [_, _, _, _, _, _]) dX6_digestOn_169 (Nat.le_of_ble_eq_true rfl) rfl ?_
    refine k_ldc2 31 dX6_digestOn_170 w_820 ?_
    refine k_lload_n dX6_digestOn_173 rfl ?_
    refine k_lmul dX6_digestOn_174 ?_
    refine k_aload_n dX6_digestOn_175 rfl ?_
    refine k_getR dX6_digestOn_176 f_X6_40 (Rd.l0 hr) (Rd.o hr) (fun _ => rfl) ?_
    refine k_iload dX6_digestOn_179 rfl ?_
    refine k_iald i dX6_digestOn_181 (Rd.l9 hr) (Rd.a9 hr) (by decide) (by omega) (by omega) ?_
    refine k_i2l dX6_digestOn_182 ⟨by omega, by omega⟩ ?_
    refine k_ladd dX6_digestOn_183 ?_
    refine k_lstore_n (L' := [_, _, _, _, _, _]) dX6_digestOn_184 (Nat.le_of_ble_eq_true rfl) rfl ?_
    refine k_iinc (L' := [_, _, _, _, _, _]) dX6_digestOn_185 rfl (Nat.le_of_ble_eq_true rfl) rfl ?_
    refine k_goto 131 dX6_digestOn_188 (by decide) ?_
    exact ih
theorem lp_dgS {G : Mem} {r : Nat} (hr : Rd r) (hV : Vok (rv G r)) (hS : Sok (rv G r)) (hD : Dok (rv G r)) {h : Int}  : ∀ i : Nat, i ≤ (G r 8).toNat → RP M_X6_digestOn 98 [some (.ref r), some (.long (lI h)), none, some (.long (lI (dgS (rv G r) (dgC (rv G r) h (G r 2).toNat) i))), none, some (.int (iI (i : Int)))] [] G (vl fun v g => vDg (rv G r) h = v ∧ G = g) := by
  have hn2 : 0 ≤ G r 2 ∧ G r 2 ≤ 6 := hV.2.2.1
  have hn8 : 0 ≤ G r 8 ∧ G r 8 ≤ 20 := hS.1
  have hn10 : 0 ≤ G r 10 ∧ G r 10 ≤ 6 := hD.1
  refine cnt ?_ (fun i hi ih => ?_)
  · skip
    refine k_iload dX6_digestOn_98 rfl ?_
    refine k_aload_n dX6_digestOn_100 rfl ?_
    refine k_getI dX6_digestOn_101 f_X6_59 (Rd.l0 hr) (Rd.o hr) (fun _ => rfl) ?_
    refine k_icmp_ge 128 dX6_digestOn_104 (by decide) ⟨by omega, by omega⟩ ⟨by omega, by omega⟩ (fun h104 => ?_) (fun h104 => absurd h104 (by omega))
    refine k_iconst dX6_digestOn_128 ?_
    refine k_istore (L' := [_, _, _, _, _, _]) dX6_digestOn_129 (Nat.le_of_ble_eq_true rfl) rfl ?_
    exact lp_dgR hr hV hS hD 0 (by omega)
  · skip
    have hv : 0 ≤ G (r + 6) i ∧ G (r + 6) i ≤ 15 := hS.2 i
    refine k_iload dX6_digestOn_98 rfl ?_
    refine k_aload_n dX6_digestOn_100 rfl ?_
    refine k_getI dX6_digestOn_101 f_X6_59 (Rd.l0 hr) (Rd.o hr) (fun _ => rfl) ?_
    refine k_icmp_ge 128 dX6_digestOn_104 (by decide) ⟨by omega, by omega⟩ ⟨by omega, by omega⟩ (fun h104 => absurd h104 (by omega)) (fun h104 => ?_)
    refine k_ldc2 31 dX6_digestOn_107 w_820 ?_
    refine k_lload_n dX6_digestOn_110 rfl ?_
    refine k_lmul dX6_digestOn_111 ?_
    refine k_aload_n dX6_digestOn_112 rfl ?_
    refine k_getR dX6_digestOn_113 f_X6_31 (Rd.l0 hr) (Rd.o hr) (fun _ => rfl) ?_
    refine k_iload dX6_digestOn_116 rfl ?_
    refine k_iald i dX6_digestOn_118 (Rd.l6 hr) (Rd.a6 hr) (by decide) (by omega) (by omega) ?_
    refine k_i2l dX6_digestOn_119 ⟨by omega, by omega⟩ ?_
    refine k_ladd dX6_digestOn_120 ?_
    refine k_lstore_n (L' := [_, _, _, _, _, _]) dX6_digestOn_121 (Nat.le_of_ble_eq_true rfl) rfl ?_
    refine k_iinc (L' := [_, _, _, _, _, _]) dX6_digestOn_122 rfl (Nat.le_of_ble_eq_true rfl) rfl ?_
    refine k_goto 98 dX6_digestOn_125 (by decide) ?_
    exact ih
theorem lp_dgC {G : Mem} {r : Nat} (hr : Rd r) (hV : Vok (rv G r)) (hS : Sok (rv G r)) (hD : Dok (rv G r)) {h : Int}  : ∀ i : Nat, i ≤ (G r 2).toNat → RP M_X6_digestOn 5 [some (.ref r), some (.long (lI h)), none, some (.long (lI (dgC (rv G r) h i))), none, some (.int (iI (i : Int)))] [] G (vl fun v g => vDg (rv G r) h = v ∧ G = g) := by
  have hn2 : 0 ≤ G r 2 ∧ G r 2 ≤ 6 := hV.2.2.1
  have hn8 : 0 ≤ G r 8 ∧ G r 8 ≤ 20 := hS.1
  have hn10 : 0 ≤ G r 10 ∧ G r 10 ≤ 6 := hD.1
  refine cnt ?_ (fun i hi ih => ?_)
  · skip
    refine k_iload dX6_digestOn_5 rfl ?_
    refine k_aload_n dX6_digestOn_7 rfl ?_
    refine k_getI dX6_digestOn_8 f_X6_56 (Rd.l0 hr) (Rd.o hr) (fun _ => rfl) ?_
    refine k_icmp_ge 95 dX6_digestOn_11 (by decide) ⟨by omega, by omega⟩ ⟨by omega, by omega⟩ (fun h11 => ?_) (fun h11 => absurd h11 (by omega))
    refine k_iconst dX6_digestOn_95 ?_
    refine k_istore (L' := [_, _, _, _, _, _]) dX6_digestOn_96 (Nat.le_of_ble_eq_true rfl) rfl ?_
    exact lp_dgS hr hV hS hD 0 (by omega)
  · skip
    have hv : (0 ≤ G (r + 1) i ∧ G (r + 1) i ≤ 5) ∧ (0 ≤ G (r + 2) i ∧ G (r + 2) i ≤ 9) ∧ (0 ≤ G (r + 3) i ∧ G (r + 3) i ≤ 47) ∧ (0 ≤ G (r + 4) i ∧ G (r + 4) i ≤ 3) ∧ (0 ≤ G (r + 5) i ∧ G (r + 5) i ≤ 60) ∧ ((i : Int) < G r 2 → 1 ≤ G (r + 2) i) := hV.2.2.2 i
    refine k_iload dX6_digestOn_5 rfl ?_
    refine k_aload_n dX6_digestOn_7 rfl ?_
    refine k_getI dX6_digestOn_8 f_X6_56 (Rd.l0 hr) (Rd.o hr) (fun _ => rfl) ?_
    refine k_icmp_ge 95 dX6_digestOn_11 (by decide) ⟨by omega, by omega⟩ ⟨by omega, by omega⟩ (fun h11 => absurd h11 (by omega)) (fun h11 => ?_)
    refine k_ldc2 31 dX6_digestOn_14 w_820 ?_
    refine k_lload_n dX6_digestOn_17 rfl ?_
    refine k_lmul dX6_digestOn_18 ?_
    refine k_aload_n dX6_digestOn_19 rfl ?_
    refine k_getR dX6_digestOn_20 f_X6_15 (Rd.l0 hr) (Rd.o hr) (fun _ => rfl) ?_
    refine k_iload dX6_digestOn_23 rfl ?_
    refine k_iald i dX6_digestOn_25 (Rd.l1 hr) (Rd.a1 hr) (by decide) (by omega) (by omega) ?_
    refine k_i2l dX6_digestOn_26 ⟨by omega, by omega⟩ ?_
    refine k_ladd dX6_digestOn_27 ?_
    refine k_lstore_n (L' := [_, _, _, _, _, _]) dX6_digestOn_28 (Nat.le_of_ble_eq_true rfl) rfl ?_
    refine k_ldc2 31 dX6_digestOn_29 w_820 ?_
    refine k_lload_n dX6_digestOn_32 rfl ?_
    refine k_lmul dX6_digestOn_33 ?_
    refine k_aload_n dX6_digestOn_34 rfl ?_
    refine k_getR dX6_digestOn_35 f_X6_19 (Rd.l0 hr) (Rd.o hr) (fun _ => rfl) ?_
    refine k_iload dX6_digestOn_38 rfl ?_
    refine k_iald i dX6_digestOn_40 (Rd.l2 hr) (Rd.a2 hr) (by decide) (by omega) (by omega) ?_
    refine k_i2l dX6_digestOn_41 ⟨by omega, by omega⟩ ?_
    refine k_ladd dX6_digestOn_42 ?_
    refine k_lstore_n (L' := [_, _, _, _, _, _]) dX6_digestOn_43 (Nat.le_of_ble_eq_true rfl) rfl ?_
    refine k_ldc2 31 dX6_digestOn_44 w_820 ?_
    refine k_lload_n dX6_digestOn_47 rfl ?_
    refine k_lmul dX6_digestOn_48 ?_
    refine k_aload_n dX6_digestOn_49 rfl ?_
    refine k_getR dX6_digestOn_50 f_X6_22 (Rd.l0 hr) (Rd.o hr) (fun _ => rfl) ?_
    refine k_iload dX6_digestOn_53 rfl ?_
    refine k_iald i dX6_digestOn_55 (Rd.l3 hr) (Rd.a3 hr) (by decide) (by omega) (by omega) ?_
    refine k_i2l dX6_digestOn_56 ⟨by omega, by omega⟩ ?_
    refine k_ladd dX6_digestOn_57 ?_
    refine k_lstore_n (L' := [_, _, _, _, _, _]) dX6_digestOn_58 (Nat.le_of_ble_eq_true rfl) rfl ?_
    refine k_ldc2 31 dX6_digestOn_59 w_820 ?_
    refine k_lload_n dX6_digestOn_62 rfl ?_
    refine k_lmul dX6_digestOn_63 ?_
    refine k_aload_n dX6_digestOn_64 rfl ?_
    refine k_getR dX6_digestOn_65 f_X6_25 (Rd.l0 hr) (Rd.o hr) (fun _ => rfl) ?_
    refine k_iload dX6_digestOn_68 rfl ?_
    refine k_iald i dX6_digestOn_70 (Rd.l4 hr) (Rd.a4 hr) (by decide) (by omega) (by omega) ?_
    refine k_i2l dX6_digestOn_71 ⟨by omega, by omega⟩ ?_
    refine k_ladd dX6_digestOn_72 ?_
    refine k_lstore_n (L' := [_, _, _, _, _, _]) dX6_digestOn_73 (Nat.le_of_ble_eq_true rfl) rfl ?_
    refine k_ldc2 31 dX6_digestOn_74 w_820 ?_
    refine k_lload_n dX6_digestOn_77 rfl ?_
    refine k_lmul dX6_digestOn_78 ?_
    refine k_aload_n dX6_digestOn_79 rfl ?_
    refine k_getR dX6_digestOn_80 f_X6_28 (Rd.l0 hr) (Rd.o hr) (fun _ => rfl) ?_
    refine k_iload dX6_digestOn_83 rfl ?_
    refine k_iald i dX6_digestOn_85 (Rd.l5 hr) (Rd.a5 hr) (by decide) (by omega) (by omega) ?_
    refine k_i2l dX6_digestOn_86 ⟨by omega, by omega⟩ ?_
    refine k_ladd dX6_digestOn_87 ?_
    refine k_lstore_n (L' := [_, _, _, _, _, _]) dX6_digestOn_88 (Nat.le_of_ble_eq_true rfl) rfl ?_
    refine k_iinc (L' := [_, _, _, _, _, _]) dX6_digestOn_89 rfl (Nat.le_of_ble_eq_true rfl) rfl ?_
    refine k_goto 5 dX6_digestOn_92 (by decide) ?_
    exact ih
theorem m_digestOn {G : Mem} {r : Nat} (hr : Rd r) (hV : Vok (rv G r)) (hS : Sok (rv G r)) (hD : Dok (rv G r)) {h : Int}  : MP M_X6_digestOn [.ref r, .long (lI h)] G (vl fun v g => vDg (rv G r) h = v ∧ G = g) := by
  refine MP.of [some (.ref r), some (.long (lI h)), none, none, none, none] (plainFor_of_name pn_X6) (Nat.le_of_ble_eq_true rfl) rfl ?_
  refine k_lload_n dX6_digestOn_0 rfl ?_
  refine k_lstore_n (L' := [_, _, _, _, _, _]) dX6_digestOn_1 (Nat.le_of_ble_eq_true rfl) rfl ?_
  refine k_iconst dX6_digestOn_2 ?_
  refine k_istore (L' := [_, _, _, _, _, _]) dX6_digestOn_3 (Nat.le_of_ble_eq_true rfl) rfl ?_
  exact lp_dgC hr hV hS hD 0 (by omega)
