/-! ===== a road's own writes ===== -/
theorem cg_nc {G : Mem} {a sp b dp n x y : Nat} (h : x ≠ b) : cg G a sp b dp n x y = G x y := if_neg (fun q => h q.1)
def rBegin (G : Mem) (r : Nat) (s l : Int) : Mem := ug (ug (ug (ug (ug (ug G r 0 s) r 1 l) r 2 0) r 8 0) r 10 0) r 14 0
def rAdd (G : Mem) (r : Nat) (k h c s b : Int) : Mem := if 6 ≤ G r 2 then G else ug (ug (ug (ug (ug (ug (ug G (r + 1) (G r 2).toNat k) (r + 2) (G r 2).toNat h) (r + 3) (G r 2).toNat c) (r + 4) (G r 2).toNat s) (r + 5) (G r 2).toNat b) r 2 (G r 2 + 1)) r 14 0
def rSpd (G : Mem) (r : Nat) (n : Int) : Mem := if 20 ≤ G r 8 then G else ug (ug G (r + 6) (G r 8).toNat n) r 8 (G r 8 + 1)
def rRdg (G : Mem) (r : Nat) (c t v : Int) : Mem := if 6 ≤ G r 10 then G else ug (ug (ug (ug G (r + 7) (G r 10).toNat c) (r + 8) (G r 10).toNat t) (r + 9) (G r 10).toNat v) r 10 (G r 10 + 1)
def rSh (G : Mem) (r : Nat) : Mem := ug (cg (cg (cg G (r + 10) 1 (r + 10) 0 7) (r + 11) 1 (r + 11) 0 7) (r + 12) 1 (r + 12) 0 7) r 14 7
def rPush (G : Mem) (r n : Nat) (c b w : Int) : Mem := ug (ug (ug (ug G (r + 10) n c) (r + 11) n b) (r + 12) n w) r 14 ((n : Int) + 1)
def rKeep (G : Mem) (r : Nat) (c b w : Int) : Mem := if 8 ≤ G r 14 then rPush (rSh G r) r 7 c b w else rPush G r (G r 14).toNat c b w
def rUndo (G : Mem) (r : Nat) : Mem := if G r 14 ≤ 0 then G else if G (r + 11) (G r 14 - 1).toNat = 0 then ug (ug G r 14 (G r 14 - 1)) (r + 3) (G (r + 10) (G r 14 - 1).toNat).toNat (G (r + 12) (G r 14 - 1).toNat) else ug (ug G r 14 (G r 14 - 1)) (r + 5) (G (r + 10) (G r 14 - 1).toNat).toNat (G (r + 12) (G r 14 - 1).toNat)
theorem m_begin {G : Mem} {r : Nat} (hr : Rd r) {s l : Int} : MP M_X6_begin [.ref r, .int (iI s), .int (iI l)] G (vv (fun g => rBegin G r s l = g)) := by
  refine MP.of [some (.ref r), some (.int (iI s)), some (.int (iI l))] (plainFor_of_name pn_X6) (Nat.le_of_ble_eq_true rfl) rfl ?_
  refine k_aload_n dX6_begin_0 rfl ?_
  refine k_iload_n dX6_begin_1 rfl ?_
  refine k_putI dX6_begin_2 f_X6_9 (Rd.l0 hr) (Rd.o hr) (fun _ => (Nat.le_of_ble_eq_true rfl)) rfl (fun _ => by simp only [eq_self, true_and]; rfl) ?_
  refine k_aload_n dX6_begin_5 rfl ?_
  refine k_iload_n dX6_begin_6 rfl ?_
  refine k_putI dX6_begin_7 f_X6_53 (Rd.l0 hr) (Rd.o hr) (fun _ => (Nat.le_of_ble_eq_true rfl)) rfl (fun _ => by simp only [eq_self, true_and]; rfl) ?_
  refine k_aload_n dX6_begin_10 rfl ?_
  refine k_iconst dX6_begin_11 ?_
  refine k_putI dX6_begin_12 f_X6_56 (Rd.l0 hr) (Rd.o hr) (fun _ => (Nat.le_of_ble_eq_true rfl)) rfl (fun _ => by simp only [eq_self, true_and]; rfl) ?_
  refine k_aload_n dX6_begin_15 rfl ?_
  refine k_iconst dX6_begin_16 ?_
  refine k_putI dX6_begin_17 f_X6_59 (Rd.l0 hr) (Rd.o hr) (fun _ => (Nat.le_of_ble_eq_true rfl)) rfl (fun _ => by simp only [eq_self, true_and]; rfl) ?_
  refine k_aload_n dX6_begin_20 rfl ?_
  refine k_iconst dX6_begin_21 ?_
  refine k_putI dX6_begin_22 f_X6_62 (Rd.l0 hr) (Rd.o hr) (fun _ => (Nat.le_of_ble_eq_true rfl)) rfl (fun _ => by simp only [eq_self, true_and]; rfl) ?_
  refine k_aload_n dX6_begin_25 rfl ?_
  refine k_iconst dX6_begin_26 ?_
  refine k_putI dX6_begin_27 f_X6_65 (Rd.l0 hr) (Rd.o hr) (fun _ => (Nat.le_of_ble_eq_true rfl)) rfl (fun _ => by simp only [eq_self, true_and]; rfl) ?_
  exact k_ret dX6_begin_30 rfl ⟨rfl, rfl⟩
theorem m_addChild {G : Mem} {r : Nat} (hr : Rd r) (hn : 0 ≤ G r 2 ∧ G r 2 ≤ 6) {k h c s b : Int} : MP M_X6_addChild [.ref r, .int (iI k), .int (iI h), .int (iI c), .int (iI s), .int (iI b)] G (vv (fun g => rAdd G r k h c s b = g)) := by
  refine MP.of [some (.ref r), some (.int (iI k)), some (.int (iI h)), some (.int (iI c)), some (.int (iI s)), some (.int (iI b))] (plainFor_of_name pn_X6) (Nat.le_of_ble_eq_true rfl) rfl ?_
  refine k_aload_n dX6_addChild_0 rfl ?_
  refine k_getI dX6_addChild_1 f_X6_56 (Rd.l0 hr) (Rd.o hr) (fun _ => rfl) ?_
  try simp (disch := omega) only [ug_at, ug_nc, ug_np, cg_nc]
  refine k_bipush dX6_addChild_4 (by decide) ?_
  refine k_icmp_lt 10 dX6_addChild_6 (by decide) ⟨by omega, by omega⟩ ⟨by decide, by decide⟩ (fun h6 => ?_) (fun h6 => ?_)
  · skip
    refine k_aload_n dX6_addChild_10 rfl ?_
    refine k_getR dX6_addChild_11 f_X6_15 (Rd.l0 hr) (Rd.o hr) (fun _ => rfl) ?_
    try simp (disch := omega) only [ug_at, ug_nc, ug_np, cg_nc]
    refine k_aload_n dX6_addChild_14 rfl ?_
    refine k_getI dX6_addChild_15 f_X6_56 (Rd.l0 hr) (Rd.o hr) (fun _ => rfl) ?_
    try simp (disch := omega) only [ug_at, ug_nc, ug_np, cg_nc]
    refine k_iload_n dX6_addChild_18 rfl ?_
    refine k_iast (G r 2).toNat dX6_addChild_19 (Rd.l1 hr) (Rd.a1 hr) (by decide) (by omega) (by omega) ?_
    refine k_aload_n dX6_addChild_20 rfl ?_
    refine k_getR dX6_addChild_21 f_X6_19 (Rd.l0 hr) (Rd.o hr) (fun _ => rfl) ?_
    try simp (disch := omega) only [ug_at, ug_nc, ug_np, cg_nc]
    refine k_aload_n dX6_addChild_24 rfl ?_
    refine k_getI dX6_addChild_25 f_X6_56 (Rd.l0 hr) (Rd.o hr) (fun _ => rfl) ?_
    try simp (disch := omega) only [ug_at, ug_nc, ug_np, cg_nc]
    refine k_iload_n dX6_addChild_28 rfl ?_
    refine k_iast (G r 2).toNat dX6_addChild_29 (Rd.l2 hr) (Rd.a2 hr) (by decide) (by omega) (by omega) ?_
    refine k_aload_n dX6_addChild_30 rfl ?_
    refine k_getR dX6_addChild_31 f_X6_22 (Rd.l0 hr) (Rd.o hr) (fun _ => rfl) ?_
    try simp (disch := omega) only [ug_at, ug_nc, ug_np, cg_nc]
    refine k_aload_n dX6_addChild_34 rfl ?_
    refine k_getI dX6_addChild_35 f_X6_56 (Rd.l0 hr) (Rd.o hr) (fun _ => rfl) ?_
    try simp (disch := omega) only [ug_at, ug_nc, ug_np, cg_nc]
    refine k_iload_n dX6_addChild_38 rfl ?_
    refine k_iast (G r 2).toNat dX6_addChild_39 (Rd.l3 hr) (Rd.a3 hr) (by decide) (by omega) (by omega) ?_
    refine k_aload_n dX6_addChild_40 rfl ?_
    refine k_getR dX6_addChild_41 f_X6_25 (Rd.l0 hr) (Rd.o hr) (fun _ => rfl) ?_
    try simp (disch := omega) only [ug_at, ug_nc, ug_np, cg_nc]
    refine k_aload_n dX6_addChild_44 rfl ?_
    refine k_getI dX6_addChild_45 f_X6_56 (Rd.l0 hr) (Rd.o hr) (fun _ => rfl) ?_
    try simp (disch := omega) only [ug_at, ug_nc, ug_np, cg_nc]
    refine k_iload dX6_addChild_48 rfl ?_
    refine k_iast (G r 2).toNat dX6_addChild_50 (Rd.l4 hr) (Rd.a4 hr) (by decide) (by omega) (by omega) ?_
    refine k_aload_n dX6_addChild_51 rfl ?_
    refine k_getR dX6_addChild_52 f_X6_28 (Rd.l0 hr) (Rd.o hr) (fun _ => rfl) ?_
    try simp (disch := omega) only [ug_at, ug_nc, ug_np, cg_nc]
    refine k_aload_n dX6_addChild_55 rfl ?_
    refine k_getI dX6_addChild_56 f_X6_56 (Rd.l0 hr) (Rd.o hr) (fun _ => rfl) ?_
    try simp (disch := omega) only [ug_at, ug_nc, ug_np, cg_nc]
    refine k_iload dX6_addChild_59 rfl ?_
    refine k_iast (G r 2).toNat dX6_addChild_61 (Rd.l5 hr) (Rd.a5 hr) (by decide) (by omega) (by omega) ?_
    refine k_aload_n dX6_addChild_62 rfl ?_
    refine k_dup dX6_addChild_63 rfl ?_
    refine k_getI dX6_addChild_64 f_X6_56 (Rd.l0 hr) (Rd.o hr) (fun _ => rfl) ?_
    try simp (disch := omega) only [ug_at, ug_nc, ug_np, cg_nc]
    refine k_iconst dX6_addChild_67 ?_
    refine k_iadd dX6_addChild_68 ?_
    refine k_putI dX6_addChild_69 f_X6_56 (Rd.l0 hr) (Rd.o hr) (fun _ => (Nat.le_of_ble_eq_true rfl)) rfl (fun _ => by simp only [eq_self, true_and]; rfl) ?_
    refine k_aload_n dX6_addChild_72 rfl ?_
    refine k_iconst dX6_addChild_73 ?_
    refine k_putI dX6_addChild_74 f_X6_65 (Rd.l0 hr) (Rd.o hr) (fun _ => (Nat.le_of_ble_eq_true rfl)) rfl (fun _ => by simp only [eq_self, true_and]; rfl) ?_
    exact k_ret dX6_addChild_77 rfl ⟨rfl, by first | exact if_pos (by omega) | exact if_neg (by omega)⟩
  · skip
    exact k_ret dX6_addChild_9 rfl ⟨rfl, by first | exact if_pos (by omega) | exact if_neg (by omega)⟩
theorem m_addSpeed {G : Mem} {r : Nat} (hr : Rd r) (hn : 0 ≤ G r 8 ∧ G r 8 ≤ 20) {n : Int} : MP M_X6_addSpeed [.ref r, .int (iI n)] G (vv (fun g => rSpd G r n = g)) := by
  refine MP.of [some (.ref r), some (.int (iI n))] (plainFor_of_name pn_X6) (Nat.le_of_ble_eq_true rfl) rfl ?_
  refine k_aload_n dX6_addSpeed_0 rfl ?_
  refine k_getI dX6_addSpeed_1 f_X6_59 (Rd.l0 hr) (Rd.o hr) (fun _ => rfl) ?_
  try simp (disch := omega) only [ug_at, ug_nc, ug_np, cg_nc]
  refine k_bipush dX6_addSpeed_4 (by decide) ?_
  refine k_icmp_ge 29 dX6_addSpeed_6 (by decide) ⟨by omega, by omega⟩ ⟨by decide, by decide⟩ (fun h6 => ?_) (fun h6 => ?_)
  · skip
    exact k_ret dX6_addSpeed_29 rfl ⟨rfl, by first | exact if_pos (by omega) | exact if_neg (by omega)⟩
  · skip
    refine k_aload_n dX6_addSpeed_9 rfl ?_
    refine k_getR dX6_addSpeed_10 f_X6_31 (Rd.l0 hr) (Rd.o hr) (fun _ => rfl) ?_
    try simp (disch := omega) only [ug_at, ug_nc, ug_np, cg_nc]
    refine k_aload_n dX6_addSpeed_13 rfl ?_
    refine k_getI dX6_addSpeed_14 f_X6_59 (Rd.l0 hr) (Rd.o hr) (fun _ => rfl) ?_
    try simp (disch := omega) only [ug_at, ug_nc, ug_np, cg_nc]
    refine k_iload_n dX6_addSpeed_17 rfl ?_
    refine k_iast (G r 8).toNat dX6_addSpeed_18 (Rd.l6 hr) (Rd.a6 hr) (by decide) (by omega) (by omega) ?_
    refine k_aload_n dX6_addSpeed_19 rfl ?_
    refine k_dup dX6_addSpeed_20 rfl ?_
    refine k_getI dX6_addSpeed_21 f_X6_59 (Rd.l0 hr) (Rd.o hr) (fun _ => rfl) ?_
    try simp (disch := omega) only [ug_at, ug_nc, ug_np, cg_nc]
    refine k_iconst dX6_addSpeed_24 ?_
    refine k_iadd dX6_addSpeed_25 ?_
    refine k_putI dX6_addSpeed_26 f_X6_59 (Rd.l0 hr) (Rd.o hr) (fun _ => (Nat.le_of_ble_eq_true rfl)) rfl (fun _ => by simp only [eq_self, true_and]; rfl) ?_
    exact k_ret dX6_addSpeed_29 rfl ⟨rfl, by first | exact if_pos (by omega) | exact if_neg (by omega)⟩
theorem m_addReading {G : Mem} {r : Nat} (hr : Rd r) (hn : 0 ≤ G r 10 ∧ G r 10 ≤ 6) {c t v : Int} : MP M_X6_addReading [.ref r, .int (iI c), .int (iI t), .int (iI v)] G (vv (fun g => rRdg G r c t v = g)) := by
  refine MP.of [some (.ref r), some (.int (iI c)), some (.int (iI t)), some (.int (iI v))] (plainFor_of_name pn_X6) (Nat.le_of_ble_eq_true rfl) rfl ?_
  refine k_aload_n dX6_addReading_0 rfl ?_
  refine k_getI dX6_addReading_1 f_X6_62 (Rd.l0 hr) (Rd.o hr) (fun _ => rfl) ?_
  try simp (disch := omega) only [ug_at, ug_nc, ug_np, cg_nc]
  refine k_bipush dX6_addReading_4 (by decide) ?_
  refine k_icmp_ge 49 dX6_addReading_6 (by decide) ⟨by omega, by omega⟩ ⟨by decide, by decide⟩ (fun h6 => ?_) (fun h6 => ?_)
  · skip
    exact k_ret dX6_addReading_49 rfl ⟨rfl, by first | exact if_pos (by omega) | exact if_neg (by omega)⟩
  · skip
    refine k_aload_n dX6_addReading_9 rfl ?_
    refine k_getR dX6_addReading_10 f_X6_34 (Rd.l0 hr) (Rd.o hr) (fun _ => rfl) ?_
    try simp (disch := omega) only [ug_at, ug_nc, ug_np, cg_nc]
    refine k_aload_n dX6_addReading_13 rfl ?_
    refine k_getI dX6_addReading_14 f_X6_62 (Rd.l0 hr) (Rd.o hr) (fun _ => rfl) ?_
    try simp (disch := omega) only [ug_at, ug_nc, ug_np, cg_nc]
    refine k_iload_n dX6_addReading_17 rfl ?_
    refine k_iast (G r 10).toNat dX6_addReading_18 (Rd.l7 hr) (Rd.a7 hr) (by decide) (by omega) (by omega) ?_
    refine k_aload_n dX6_addReading_19 rfl ?_
    refine k_getR dX6_addReading_20 f_X6_37 (Rd.l0 hr) (Rd.o hr) (fun _ => rfl) ?_
    try simp (disch := omega) only [ug_at, ug_nc, ug_np, cg_nc]
    refine k_aload_n dX6_addReading_23 rfl ?_
    refine k_getI dX6_addReading_24 f_X6_62 (Rd.l0 hr) (Rd.o hr) (fun _ => rfl) ?_
    try simp (disch := omega) only [ug_at, ug_nc, ug_np, cg_nc]
    refine k_iload_n dX6_addReading_27 rfl ?_
    refine k_iast (G r 10).toNat dX6_addReading_28 (Rd.l8 hr) (Rd.a8 hr) (by decide) (by omega) (by omega) ?_
    refine k_aload_n dX6_addReading_29 rfl ?_
    refine k_getR dX6_addReading_30 f_X6_40 (Rd.l0 hr) (Rd.o hr) (fun _ => rfl) ?_
    try simp (disch := omega) only [ug_at, ug_nc, ug_np, cg_nc]
    refine k_aload_n dX6_addReading_33 rfl ?_
    refine k_getI dX6_addReading_34 f_X6_62 (Rd.l0 hr) (Rd.o hr) (fun _ => rfl) ?_
    try simp (disch := omega) only [ug_at, ug_nc, ug_np, cg_nc]
    refine k_iload_n dX6_addReading_37 rfl ?_
    refine k_iast (G r 10).toNat dX6_addReading_38 (Rd.l9 hr) (Rd.a9 hr) (by decide) (by omega) (by omega) ?_
    refine k_aload_n dX6_addReading_39 rfl ?_
    refine k_dup dX6_addReading_40 rfl ?_
    refine k_getI dX6_addReading_41 f_X6_62 (Rd.l0 hr) (Rd.o hr) (fun _ => rfl) ?_
    try simp (disch := omega) only [ug_at, ug_nc, ug_np, cg_nc]
    refine k_iconst dX6_addReading_44 ?_
    refine k_iadd dX6_addReading_45 ?_
    refine k_putI dX6_addReading_46 f_X6_62 (Rd.l0 hr) (Rd.o hr) (fun _ => (Nat.le_of_ble_eq_true rfl)) rfl (fun _ => by simp only [eq_self, true_and]; rfl) ?_
    exact k_ret dX6_addReading_49 rfl ⟨rfl, by first | exact if_pos (by omega) | exact if_neg (by omega)⟩
theorem lp_push {G : Mem} {r : Nat} (hr : Rd r) {n : Nat} (hn : G r 14 = n) (hn8 : n < 8) {c b w : Int} (hb : b = 0 ∨ b = 1) : RP M_X6_keepForUndo 60 [some (.ref r), some (.int (iI c)), some (.int (iI b)), some (.int (iI w))] [] G (vv (fun g => rPush G r n c b w = g)) := by
  refine k_aload_n dX6_keepForUndo_60 rfl ?_
  refine k_getR dX6_keepForUndo_61 f_X6_43 (Rd.l0 hr) (Rd.o hr) (fun _ => rfl) ?_
  try simp (disch := omega) only [ug_at, ug_nc, ug_np, cg_nc]
  refine k_aload_n dX6_keepForUndo_64 rfl ?_
  refine k_getI dX6_keepForUndo_65 f_X6_65 (Rd.l0 hr) (Rd.o hr) (fun _ => rfl) ?_
  try simp (disch := omega) only [ug_at, ug_nc, ug_np, cg_nc]
  refine k_iload_n dX6_keepForUndo_68 rfl ?_
  refine k_iast n dX6_keepForUndo_69 (Rd.l10 hr) (Rd.a10 hr) (by decide) (by omega) (by omega) ?_
  refine k_aload_n dX6_keepForUndo_70 rfl ?_
  refine k_getR dX6_keepForUndo_71 f_X6_46 (Rd.l0 hr) (Rd.o hr) (fun _ => rfl) ?_
  try simp (disch := omega) only [ug_at, ug_nc, ug_np, cg_nc]
  refine k_aload_n dX6_keepForUndo_74 rfl ?_
  refine k_getI dX6_keepForUndo_75 f_X6_65 (Rd.l0 hr) (Rd.o hr) (fun _ => rfl) ?_
  try simp (disch := omega) only [ug_at, ug_nc, ug_np, cg_nc]
  refine k_iload_n dX6_keepForUndo_78 rfl ?_
  refine k_zast n dX6_keepForUndo_79 (Rd.l11 hr) (Rd.a11 hr) (by decide) (by omega) (by omega) hb ?_
  refine k_aload_n dX6_keepForUndo_80 rfl ?_
  refine k_getR dX6_keepForUndo_81 f_X6_50 (Rd.l0 hr) (Rd.o hr) (fun _ => rfl) ?_
  try simp (disch := omega) only [ug_at, ug_nc, ug_np, cg_nc]
  refine k_aload_n dX6_keepForUndo_84 rfl ?_
  refine k_getI dX6_keepForUndo_85 f_X6_65 (Rd.l0 hr) (Rd.o hr) (fun _ => rfl) ?_
  try simp (disch := omega) only [ug_at, ug_nc, ug_np, cg_nc]
  refine k_iload_n dX6_keepForUndo_88 rfl ?_
  refine k_iast n dX6_keepForUndo_89 (Rd.l12 hr) (Rd.a12 hr) (by decide) (by omega) (by omega) ?_
  refine k_aload_n dX6_keepForUndo_90 rfl ?_
  refine k_dup dX6_keepForUndo_91 rfl ?_
  refine k_getI dX6_keepForUndo_92 f_X6_65 (Rd.l0 hr) (Rd.o hr) (fun _ => rfl) ?_
  try simp (disch := omega) only [ug_at, ug_nc, ug_np, cg_nc]
  refine k_iconst dX6_keepForUndo_95 ?_
  rw [hn]
  refine k_iadd dX6_keepForUndo_96 ?_
  refine k_putI dX6_keepForUndo_97 f_X6_65 (Rd.l0 hr) (Rd.o hr) (fun _ => (Nat.le_of_ble_eq_true rfl)) rfl (fun _ => by simp only [eq_self, true_and]; rfl) ?_
  exact k_ret dX6_keepForUndo_100 rfl ⟨rfl, rfl⟩
theorem m_keepForUndo {G : Mem} {r : Nat} (hr : Rd r) (hn : 0 ≤ G r 14 ∧ G r 14 ≤ 8) (hz : ∀ j, G (r + 11) j = 0 ∨ G (r + 11) j = 1) {c b w : Int} (hb : b = 0 ∨ b = 1) : MP M_X6_keepForUndo [.ref r, .int (iI c), .int (iI b), .int (iI w)] G (vv (fun g => rKeep G r c b w = g)) := by
  refine MP.of [some (.ref r), some (.int (iI c)), some (.int (iI b)), some (.int (iI w))] (plainFor_of_name pn_X6) (Nat.le_of_ble_eq_true rfl) rfl ?_
  refine k_aload_n dX6_keepForUndo_0 rfl ?_
  refine k_getI dX6_keepForUndo_1 f_X6_65 (Rd.l0 hr) (Rd.o hr) (fun _ => rfl) ?_
  refine k_bipush dX6_keepForUndo_4 (by decide) ?_
  refine k_icmp_lt 60 dX6_keepForUndo_6 (by decide) ⟨by omega, by omega⟩ ⟨by decide, by decide⟩ (fun h6 => ?_) (fun h6 => ?_)
  · skip
    first | (rw [show rKeep G r c b w = rPush G r (G r 14).toNat c b w from if_neg (by omega)]; exact lp_push hr (by omega) (by omega) hb) | (rw [show rKeep G r c b w = rPush (rSh G r) r 7 c b w from if_pos (by omega)]; exact lp_push hr (show rSh G r r 14 = ((7 : Nat) : Int) from ug_at) (by omega) hb)
  · skip
    refine k_aload_n dX6_keepForUndo_9 rfl ?_
    refine k_getR dX6_keepForUndo_10 f_X6_43 (Rd.l0 hr) (Rd.o hr) (fun _ => rfl) ?_
    refine k_iconst dX6_keepForUndo_13 ?_
    refine k_aload_n dX6_keepForUndo_14 rfl ?_
    refine k_getR dX6_keepForUndo_15 f_X6_43 (Rd.l0 hr) (Rd.o hr) (fun _ => rfl) ?_
    refine k_iconst dX6_keepForUndo_18 ?_
    refine k_bipush dX6_keepForUndo_19 (by decide) ?_
    refine k_copy 1 0 7 dX6_keepForUndo_21 cp_X6_68 (Rd.l10 hr) (Rd.l10 hr) (Rd.a10 hr) (Rd.a10 hr) rfl rfl rfl (Nat.le_of_ble_eq_true rfl) (Nat.le_of_ble_eq_true rfl) ⟨by decide, by decide⟩ (fun h => by cases h) ⟨(Nat.le_of_ble_eq_true rfl), (Nat.le_of_ble_eq_true rfl)⟩ (Nat.le_of_ble_eq_true rfl) ?_
    refine k_aload_n dX6_keepForUndo_24 rfl ?_
    refine k_getR dX6_keepForUndo_25 f_X6_46 (Rd.l0 hr) (Rd.o hr) (fun _ => rfl) ?_
    refine k_iconst dX6_keepForUndo_28 ?_
    refine k_aload_n dX6_keepForUndo_29 rfl ?_
    refine k_getR dX6_keepForUndo_30 f_X6_46 (Rd.l0 hr) (Rd.o hr) (fun _ => rfl) ?_
    refine k_iconst dX6_keepForUndo_33 ?_
    refine k_bipush dX6_keepForUndo_34 (by decide) ?_
    refine k_copy 1 0 7 dX6_keepForUndo_36 cp_X6_68 (Rd.l11 hr) (Rd.l11 hr) (Rd.a11 hr) (Rd.a11 hr) rfl rfl rfl (Nat.le_of_ble_eq_true rfl) (Nat.le_of_ble_eq_true rfl) ⟨by decide, by decide⟩ (fun _ j => by rw [cg_nc (by omega)]; exact hz j) ⟨(Nat.le_of_ble_eq_true rfl), (Nat.le_of_ble_eq_true rfl)⟩ (Nat.le_of_ble_eq_true rfl) ?_
    refine k_aload_n dX6_keepForUndo_39 rfl ?_
    refine k_getR dX6_keepForUndo_40 f_X6_50 (Rd.l0 hr) (Rd.o hr) (fun _ => rfl) ?_
    refine k_iconst dX6_keepForUndo_43 ?_
    refine k_aload_n dX6_keepForUndo_44 rfl ?_
    refine k_getR dX6_keepForUndo_45 f_X6_50 (Rd.l0 hr) (Rd.o hr) (fun _ => rfl) ?_
    refine k_iconst dX6_keepForUndo_48 ?_
    refine k_bipush dX6_keepForUndo_49 (by decide) ?_
    refine k_copy 1 0 7 dX6_keepForUndo_51 cp_X6_68 (Rd.l12 hr) (Rd.l12 hr) (Rd.a12 hr) (Rd.a12 hr) rfl rfl rfl (Nat.le_of_ble_eq_true rfl) (Nat.le_of_ble_eq_true rfl) ⟨by decide, by decide⟩ (fun h => by cases h) ⟨(Nat.le_of_ble_eq_true rfl), (Nat.le_of_ble_eq_true rfl)⟩ (Nat.le_of_ble_eq_true rfl) ?_
    refine k_aload_n dX6_keepForUndo_54 rfl ?_
    refine k_bipush dX6_keepForUndo_55 (by decide) ?_
    refine k_putI dX6_keepForUndo_57 f_X6_65 (Rd.l0 hr) (Rd.o hr) (fun _ => (Nat.le_of_ble_eq_true rfl)) rfl (fun _ => by simp only [eq_self, true_and]; rfl) ?_
    first | (rw [show rKeep G r c b w = rPush G r (G r 14).toNat c b w from if_neg (by omega)]; exact lp_push hr (by omega) (by omega) hb) | (rw [show rKeep G r c b w = rPush (rSh G r) r 7 c b w from if_pos (by omega)]; exact lp_push hr (show rSh G r r 14 = ((7 : Nat) : Int) from ug_at) (by omega) hb)
theorem m_undoLast {G : Mem} {r : Nat} (hr : Rd r) (hn : 0 ≤ G r 14 ∧ G r 14 ≤ 8) (hz : ∀ j, G (r + 11) j = 0 ∨ G (r + 11) j = 1) (hc : ∀ j, 0 ≤ G (r + 10) j ∧ G (r + 10) j ≤ 5) : MP M_X6_undoLast [.ref r] G (vv (fun g => rUndo G r = g)) := by
  have hz1 := hz (G r 14 - 1).toNat
  have hc1 := hc (G r 14 - 1).toNat
  refine MP.of [some (.ref r), none] (plainFor_of_name pn_X6) (Nat.le_of_ble_eq_true rfl) rfl ?_
  refine k_aload_n dX6_undoLast_0 rfl ?_
  refine k_getI dX6_undoLast_1 f_X6_65 (Rd.l0 hr) (Rd.o hr) (fun _ => rfl) ?_
  try simp (disch := omega) only [ug_at, ug_nc, ug_np, cg_nc]
  refine k_if_gt 8 dX6_undoLast_4 (by decide) ⟨by omega, by omega⟩ (fun h4 => ?_) (fun h4 => ?_)
  · skip
    refine k_aload_n dX6_undoLast_8 rfl ?_
    refine k_dup dX6_undoLast_9 rfl ?_
    refine k_getI dX6_undoLast_10 f_X6_65 (Rd.l0 hr) (Rd.o hr) (fun _ => rfl) ?_
    try simp (disch := omega) only [ug_at, ug_nc, ug_np, cg_nc]
    refine k_iconst dX6_undoLast_13 ?_
    refine k_isub dX6_undoLast_14 ?_
    refine k_putI dX6_undoLast_15 f_X6_65 (Rd.l0 hr) (Rd.o hr) (fun _ => (Nat.le_of_ble_eq_true rfl)) rfl (fun _ => by simp only [eq_self, true_and]; rfl) ?_
    refine k_aload_n dX6_undoLast_18 rfl ?_
    refine k_getR dX6_undoLast_19 f_X6_46 (Rd.l0 hr) (Rd.o hr) (fun _ => rfl) ?_
    try simp (disch := omega) only [ug_at, ug_nc, ug_np, cg_nc]
    refine k_aload_n dX6_undoLast_22 rfl ?_
    refine k_getI dX6_undoLast_23 f_X6_65 (Rd.l0 hr) (Rd.o hr) (fun _ => rfl) ?_
    try simp (disch := omega) only [ug_at, ug_nc, ug_np, cg_nc]
    refine k_zald (G r 14 - 1).toNat dX6_undoLast_26 (Rd.l11 hr) (Rd.a11 hr) (by decide) (by omega) (by omega) ?_
    try simp (disch := omega) only [ug_at, ug_nc, ug_np, cg_nc]
    refine k_if_eq 37 dX6_undoLast_27 (by decide) ⟨by omega, by omega⟩ (fun h27 => ?_) (fun h27 => ?_)
    · skip
      refine k_aload_n dX6_undoLast_37 rfl ?_
      refine k_getR dX6_undoLast_38 f_X6_22 (Rd.l0 hr) (Rd.o hr) (fun _ => rfl) ?_
      try simp (disch := omega) only [ug_at, ug_nc, ug_np, cg_nc]
      refine k_astore_n (L' := [_, _]) dX6_undoLast_41 (Nat.le_of_ble_eq_true rfl) rfl ?_
      refine k_aload_n dX6_undoLast_42 rfl ?_
      refine k_aload_n dX6_undoLast_43 rfl ?_
      refine k_getR dX6_undoLast_44 f_X6_43 (Rd.l0 hr) (Rd.o hr) (fun _ => rfl) ?_
      try simp (disch := omega) only [ug_at, ug_nc, ug_np, cg_nc]
      refine k_aload_n dX6_undoLast_47 rfl ?_
      refine k_getI dX6_undoLast_48 f_X6_65 (Rd.l0 hr) (Rd.o hr) (fun _ => rfl) ?_
      try simp (disch := omega) only [ug_at, ug_nc, ug_np, cg_nc]
      refine k_iald (G r 14 - 1).toNat dX6_undoLast_51 (Rd.l10 hr) (Rd.a10 hr) (by decide) (by omega) (by omega) ?_
      try simp (disch := omega) only [ug_at, ug_nc, ug_np, cg_nc]
      refine k_aload_n dX6_undoLast_52 rfl ?_
      refine k_getR dX6_undoLast_53 f_X6_50 (Rd.l0 hr) (Rd.o hr) (fun _ => rfl) ?_
      try simp (disch := omega) only [ug_at, ug_nc, ug_np, cg_nc]
      refine k_aload_n dX6_undoLast_56 rfl ?_
      refine k_getI dX6_undoLast_57 f_X6_65 (Rd.l0 hr) (Rd.o hr) (fun _ => rfl) ?_
      try simp (disch := omega) only [ug_at, ug_nc, ug_np, cg_nc]
      refine k_iald (G r 14 - 1).toNat dX6_undoLast_60 (Rd.l12 hr) (Rd.a12 hr) (by decide) (by omega) (by omega) ?_
      try simp (disch := omega) only [ug_at, ug_nc, ug_np, cg_nc]
      refine k_iast (G (r + 10) (G r 14 - 1).toNat).toNat dX6_undoLast_61 (Rd.l3 hr) (Rd.a3 hr) (by decide) (by omega) (by omega) ?_
      exact k_ret dX6_undoLast_62 rfl ⟨rfl, by unfold rUndo; first | (rw [if_pos (by omega)]; done) | (rw [if_neg (by omega), if_pos (by omega)]; done) | (rw [if_neg (by omega), if_neg (by omega)]; done)⟩
    · skip
      refine k_aload_n dX6_undoLast_30 rfl ?_
      refine k_getR dX6_undoLast_31 f_X6_28 (Rd.l0 hr) (Rd.o hr) (fun _ => rfl) ?_
      try simp (disch := omega) only [ug_at, ug_nc, ug_np, cg_nc]
      refine k_goto 41 dX6_undoLast_34 (by decide) ?_
      try simp (disch := omega) only [ug_at, ug_nc, ug_np, cg_nc]
      refine k_astore_n (L' := [_, _]) dX6_undoLast_41 (Nat.le_of_ble_eq_true rfl) rfl ?_
      refine k_aload_n dX6_undoLast_42 rfl ?_
      refine k_aload_n dX6_undoLast_43 rfl ?_
      refine k_getR dX6_undoLast_44 f_X6_43 (Rd.l0 hr) (Rd.o hr) (fun _ => rfl) ?_
      try simp (disch := omega) only [ug_at, ug_nc, ug_np, cg_nc]
      refine k_aload_n dX6_undoLast_47 rfl ?_
      refine k_getI dX6_undoLast_48 f_X6_65 (Rd.l0 hr) (Rd.o hr) (fun _ => rfl) ?_
      try simp (disch := omega) only [ug_at, ug_nc, ug_np, cg_nc]
      refine k_iald (G r 14 - 1).toNat dX6_undoLast_51 (Rd.l10 hr) (Rd.a10 hr) (by decide) (by omega) (by omega) ?_
      try simp (disch := omega) only [ug_at, ug_nc, ug_np, cg_nc]
      refine k_aload_n dX6_undoLast_52 rfl ?_
      refine k_getR dX6_undoLast_53 f_X6_50 (Rd.l0 hr) (Rd.o hr) (fun _ => rfl) ?_
      try simp (disch := omega) only [ug_at, ug_nc, ug_np, cg_nc]
      refine k_aload_n dX6_undoLast_56 rfl ?_
      refine k_getI dX6_undoLast_57 f_X6_65 (Rd.l0 hr) (Rd.o hr) (fun _ => rfl) ?_
      try simp (disch := omega) only [ug_at, ug_nc, ug_np, cg_nc]
      refine k_iald (G r 14 - 1).toNat dX6_undoLast_60 (Rd.l12 hr) (Rd.a12 hr) (by decide) (by omega) (by omega) ?_
      try simp (disch := omega) only [ug_at, ug_nc, ug_np, cg_nc]
      refine k_iast (G (r + 10) (G r 14 - 1).toNat).toNat dX6_undoLast_61 (Rd.l5 hr) (Rd.a5 hr) (by decide) (by omega) (by omega) ?_
      exact k_ret dX6_undoLast_62 rfl ⟨rfl, by unfold rUndo; first | (rw [if_pos (by omega)]; done) | (rw [if_neg (by omega), if_pos (by omega)]; done) | (rw [if_neg (by omega), if_neg (by omega)]; done)⟩
  · skip
    exact k_ret dX6_undoLast_7 rfl ⟨rfl, by unfold rUndo; first | (rw [if_pos (by omega)]; done) | (rw [if_neg (by omega), if_pos (by omega)]; done) | (rw [if_neg (by omega), if_neg (by omega)]; done)⟩
