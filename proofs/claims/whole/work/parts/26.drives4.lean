/-! ===== the move ===== -/
def vMv (V : Mem) (a : Int) : Nat → Int × Int
  | 0 => (-1, vThere V (vAll V) a)
  | k + 1 => if vThere (ug V 3 (k / 48) ((k % 48 : Nat) : Int)) (vAll V) a < (vMv V a k).2 then (100 * ((k / 48 : Nat) : Int) + ((k % 48 : Nat) : Int), vThere (ug V 3 (k / 48) ((k % 48 : Nat) : Int)) (vAll V) a) else vMv V a k
theorem vMv_b {V : Mem} {a : Int} (ha : 0 ≤ a ∧ a ≤ 60) : ∀ k, 0 ≤ (vMv V a k).2 ∧ (vMv V a k).2 ≤ 61
  | 0 => vThere_b ha
  | k + 1 => by
    have h1 := vMv_b (V := V) ha k
    have h2 := vThere_b (V := ug V 3 (k / 48) ((k % 48 : Nat) : Int)) (set := vAll V) ha
    unfold vMv
    split
    · exact h2
    · exact h1
/-- the rows of the limits and one child's first cell have changed alone -/
def MvL (G : Mem) (r c : Nat) (G1 : Mem) : Prop := (∀ x y, x ≠ 72 → x ≠ 73 → ¬ (x = r + 3 ∧ y = c) → G1 x y = G x y) ∧ q_ok (G1 (65 + 7)) (G1 (65 + 8))
theorem MvL.veq {G G1 : Mem} {r c : Nat} (h : MvL G r c G1) (hrl : r + 12 < 65) (v : Int) : Veq (ug (rv G r) 3 c v) (rv (ug G1 (r + 3) c v) r) := by
  intro x y hx
  by_cases e : x = 3 ∧ y = c
  · obtain ⟨rfl, rfl⟩ := e
    rw [ug_at]
    exact ug_at.symm
  · rw [ug_ne e]
    have e2 : ¬ (r + x = r + 3 ∧ y = c) := fun z => e ⟨by omega, z.2⟩
    show G (r + x) y = ug G1 (r + 3) c v (r + x) y
    rw [ug_ne e2, h.1 (r + x) y (by omega) (by omega) e2]
theorem Vok.cell {V : Mem} (h : Vok V) {c : Nat} {v : Int} (hv : 0 ≤ v ∧ v ≤ 47) : Vok (ug V 3 c v) := by
  refine ⟨h.1, h.2.1, h.2.2.1, fun i => ?_⟩
  have := h.2.2.2 i
  by_cases e : i = c
  · subst e
    rw [show ug V 3 i v 3 i = v from ug_at]
    exact ⟨this.1, this.2.1, hv, this.2.2.2⟩
  · rw [show ug V 3 c v 3 i = V 3 i from ug_np e]
    exact this
theorem MvL.q {G G1 : Mem} {r c : Nat} (h : MvL G r c G1) (hrl : r + 12 < 65) (v : Int) : q_ok (ug G1 (r + 3) c v (65 + 7)) (ug G1 (r + 3) c v (65 + 8)) := by
  rw [show ug G1 (r + 3) c v (65 + 7) = G1 (65 + 7) from funext (fun y => ug_nc (by omega)), show ug G1 (r + 3) c v (65 + 8) = G1 (65 + 8) from funext (fun y => ug_nc (by omega))]
  exact h.2
theorem MvL.go {G G1 G2 : Mem} {r c : Nat} (h : MvL G r c G1) {v : Int} (h2 : LI 65 (ug G1 (r + 3) c v) G2) : MvL G r c G2 := by
  refine ⟨fun x y h1 h3 h4 => ?_, h2.2⟩
  rw [h2.1 x y h1 h3, ug_ne h4, h.1 x y h1 h3 h4]
theorem MvL.back {G G1 : Mem} {r c : Nat} (h : MvL G r c G1) (hrl : r + 12 < 65) : LI 65 G (ug G1 (r + 3) c (G (r + 3) c)) := by
  refine ⟨fun x y h1 h3 => ?_, h.q hrl _⟩
  by_cases e : x = r + 3 ∧ y = c
  · obtain ⟨rfl, rfl⟩ := e
    exact ug_at
  · rw [ug_ne e, h.1 x y h1 h3 e]
theorem lp_moveIn {G : Mem} {r : Nat} (hr : Rd r) (hrl : r + 12 < 65) (hV : Vok (rv G r)) {a : Int} (ha : 0 ≤ a ∧ a ≤ 60) {c : Nat} (hc : c < 6) (hcn : (c : Int) < G r 2) (hk : ∀ (G1 : Mem) (j7 j8 : Option Value), LI 65 G G1 → RP M_X1_bestMove 101 [some (.ref 64), some (.ref r), some (.int (iI a)), some (.int (iI (vMv (rv G r) a (48 * c + 48)).1)), some (.int (iI (vMv (rv G r) a (48 * c + 48)).2)), some (.int (iI (c : Int))), some (.int (iI (G (r + 3) c))), j7, j8] [] G1 (vi fun v g => (vMv (rv G r) a (48 * (G r 2).toNat)).1 = v ∧ LI 65 G g)) : ∀ x : Nat, x ≤ 48 → ∀ (G1 : Mem) (j8 : Option Value), MvL G r c G1 → RP M_X1_bestMove 38 [some (.ref 64), some (.ref r), some (.int (iI a)), some (.int (iI (vMv (rv G r) a (48 * c + x)).1)), some (.int (iI (vMv (rv G r) a (48 * c + x)).2)), some (.int (iI (c : Int))), some (.int (iI (G (r + 3) c))), some (.int (iI (x : Int))), j8] [] G1 (vi fun v g => (vMv (rv G r) a (48 * (G r 2).toNat)).1 = v ∧ LI 65 G g) := by
  refine cnt (fun G1 j8 hM => ?_) (fun x hx ih G1 j8 hM => ?_)
  · skip
    refine k_iload dX1_bestMove_38 rfl ?_
    refine k_bipush dX1_bestMove_40 (by decide) ?_
    refine k_icmp_ge 92 dX1_bestMove_42 (by decide) ⟨by omega, by omega⟩ ⟨by decide, by decide⟩ (fun h42 => ?_) (fun h42 => absurd h42 (by omega))
    refine k_aload_n dX1_bestMove_92 rfl ?_
    refine k_getR dX1_bestMove_93 f_X1_70 (Rd.l0 hr) (Rd.o hr) (fun _ => rfl) ?_
    refine k_iload dX1_bestMove_96 rfl ?_
    refine k_iload dX1_bestMove_98 rfl ?_
    refine k_iast c dX1_bestMove_100 (Rd.l3 hr) (Rd.a3 hr) (by decide) (by omega) (by omega) ?_
    exact hk _ _ _ (hM.back hrl)
  · skip
    have hM2 : Veq (ug (rv G r) 3 c (x : Int)) (rv (ug G1 (r + 3) c (x : Int)) r) := hM.veq hrl (x : Int)
    have hV2 := hM2.ok (hV.cell (c := c) (v := (x : Int)) (by omega))
    have hq2 := hM.q hrl (x : Int)
    have bm := vMv_b (V := rv G r) ha (48 * c + x)
    have e := vMv.eq_2 (rv G r) a (48 * c + x)
    have bt := vThere_b (V := ug (rv G r) 3 c (x : Int)) (set := vAll (rv G r)) ha
    rw [show (48 * c + x) / 48 = c by omega, show (48 * c + x) % 48 = x by omega] at e
    have ea : vAll (rv (ug G1 (r + 3) c (x : Int)) r) = vAll (rv G r) := hM2.all.symm
    refine k_iload dX1_bestMove_38 rfl ?_
    refine k_bipush dX1_bestMove_40 (by decide) ?_
    refine k_icmp_ge 92 dX1_bestMove_42 (by decide) ⟨by omega, by omega⟩ ⟨by decide, by decide⟩ (fun h42 => absurd h42 (by omega)) (fun h42 => ?_)
    refine k_aload_n dX1_bestMove_45 rfl ?_
    refine k_getR dX1_bestMove_46 f_X1_70 (Rd.l0 hr) (Rd.o hr) (fun _ => rfl) ?_
    refine k_iload dX1_bestMove_49 rfl ?_
    refine k_iload dX1_bestMove_51 rfl ?_
    refine k_iast c dX1_bestMove_53 (Rd.l3 hr) (Rd.a3 hr) (by decide) (by omega) (by omega) ?_
    refine k_aload_n dX1_bestMove_54 rfl ?_
    refine k_aload_n dX1_bestMove_55 rfl ?_
    refine k_aload_n dX1_bestMove_56 rfl ?_
    refine k_callVi [] dX1_bestMove_57 s_X1_bestMove_26 rfl (m_allL hr hrl hV2 (LI.rf hq2)) rfl (Rd.l0 hr) (Rd.o hr) ⟨_, rfl, rfl⟩ (Nat.le_of_ble_eq_true rfl) ?_
    rintro _ _ ⟨rfl, rfl⟩
    refine k_iload_n dX1_bestMove_60 rfl ?_
    refine k_callVi [.ref _, .int (iI _), .int (iI _)] dX1_bestMove_61 s_X1_bestMove_45 rfl (m_endHere hr hrl hV2 hq2 (vAll_lt hV2) ha) rfl (Nat.le_of_ble_eq_true rfl) sh_o64 ⟨_, rfl, rfl⟩ (Nat.le_of_ble_eq_true rfl) ?_
    rw [← hM2.there, ea]
    rintro _ G2 ⟨rfl, hI2⟩
    refine k_istore (L' := [_, _, _, _, _, _, _, _, _]) dX1_bestMove_64 (Nat.le_of_ble_eq_true rfl) rfl ?_
    refine k_iload dX1_bestMove_66 rfl ?_
    refine k_iload dX1_bestMove_68 rfl ?_
    refine k_icmp_ge 86 dX1_bestMove_70 (by decide) ⟨by omega, by omega⟩ ⟨by omega, by omega⟩ (fun h70 => ?_) (fun h70 => ?_)
    · skip
      refine k_iinc (L' := [_, _, _, _, _, _, _, _, _]) dX1_bestMove_86 rfl (Nat.le_of_ble_eq_true rfl) rfl ?_
      refine k_goto 38 dX1_bestMove_89 (by decide) ?_
      first | (rw [if_neg (by omega)] at e; rw [show 48 * c + (x + 1) = (48 * c + x).succ by omega, e] at ih; exact ih _ _ (hM.go hI2)) | (rw [if_pos (by omega)] at e; rw [show 48 * c + (x + 1) = (48 * c + x).succ by omega, e] at ih; exact ih _ _ (hM.go hI2))
    · skip
      refine k_bipush dX1_bestMove_73 (by decide) ?_
      refine k_iload dX1_bestMove_75 rfl ?_
      refine k_imul dX1_bestMove_77 ?_
      refine k_iload dX1_bestMove_78 rfl ?_
      refine k_iadd dX1_bestMove_80 ?_
      refine k_istore_n (L' := [_, _, _, _, _, _, _, _, _]) dX1_bestMove_81 (Nat.le_of_ble_eq_true rfl) rfl ?_
      refine k_iload dX1_bestMove_82 rfl ?_
      refine k_istore (L' := [_, _, _, _, _, _, _, _, _]) dX1_bestMove_84 (Nat.le_of_ble_eq_true rfl) rfl ?_
      refine k_iinc (L' := [_, _, _, _, _, _, _, _, _]) dX1_bestMove_86 rfl (Nat.le_of_ble_eq_true rfl) rfl ?_
      refine k_goto 38 dX1_bestMove_89 (by decide) ?_
      first | (rw [if_neg (by omega)] at e; rw [show 48 * c + (x + 1) = (48 * c + x).succ by omega, e] at ih; exact ih _ _ (hM.go hI2)) | (rw [if_pos (by omega)] at e; rw [show 48 * c + (x + 1) = (48 * c + x).succ by omega, e] at ih; exact ih _ _ (hM.go hI2))
theorem lp_bestMove {G : Mem} {r : Nat} (hr : Rd r) (hrl : r + 12 < 65) (hV : Vok (rv G r)) {a : Int} (ha : 0 ≤ a ∧ a ≤ 60) : ∀ c : Nat, c ≤ (G r 2).toNat → ∀ (G1 : Mem) (j6 j7 j8 : Option Value), LI 65 G G1 → RP M_X1_bestMove 17 [some (.ref 64), some (.ref r), some (.int (iI a)), some (.int (iI (vMv (rv G r) a (48 * c)).1)), some (.int (iI (vMv (rv G r) a (48 * c)).2)), some (.int (iI (c : Int))), j6, j7, j8] [] G1 (vi fun v g => (vMv (rv G r) a (48 * (G r 2).toNat)).1 = v ∧ LI 65 G g) := by
  have hn : 0 ≤ G r 2 ∧ G r 2 ≤ 6 := hV.2.2.1
  refine cnt (fun G1 j6 j7 j8 hI => ?_) (fun c hc ih G1 j6 j7 j8 hI => ?_)
  · skip
    have e2 : G1 r 2 = G r 2 := hI.1 r 2 (by omega) (by omega)
    refine k_iload dX1_bestMove_17 rfl ?_
    refine k_aload_n dX1_bestMove_19 rfl ?_
    refine k_getI dX1_bestMove_20 f_X1_67 (Rd.l0 hr) (Rd.o hr) (fun _ => rfl) ?_
    refine k_icmp_ge 107 dX1_bestMove_23 (by decide) ⟨by omega, by omega⟩ ⟨by omega, by omega⟩ (fun h23 => ?_) (fun h23 => absurd h23 (by omega))
    refine k_iload_n dX1_bestMove_107 rfl ?_
    exact k_iret dX1_bestMove_108 rfl ⟨_, rfl, rfl, hI⟩
  · skip
    have e2 : G1 r 2 = G r 2 := hI.1 r 2 (by omega) (by omega)
    have e3 : G1 (r + 3) c = G (r + 3) c := hI.1 (r + 3) c (by omega) (by omega)
    refine k_iload dX1_bestMove_17 rfl ?_
    refine k_aload_n dX1_bestMove_19 rfl ?_
    refine k_getI dX1_bestMove_20 f_X1_67 (Rd.l0 hr) (Rd.o hr) (fun _ => rfl) ?_
    refine k_icmp_ge 107 dX1_bestMove_23 (by decide) ⟨by omega, by omega⟩ ⟨by omega, by omega⟩ (fun h23 => absurd h23 (by omega)) (fun h23 => ?_)
    refine k_aload_n dX1_bestMove_26 rfl ?_
    refine k_getR dX1_bestMove_27 f_X1_70 (Rd.l0 hr) (Rd.o hr) (fun _ => rfl) ?_
    refine k_iload dX1_bestMove_30 rfl ?_
    refine k_iald c dX1_bestMove_32 (Rd.l3 hr) (Rd.a3 hr) (by decide) (by omega) (by omega) ?_
    rw [e3]
    refine k_istore (L' := [_, _, _, _, _, _, _, _, _]) dX1_bestMove_33 (Nat.le_of_ble_eq_true rfl) rfl ?_
    refine k_iconst dX1_bestMove_35 ?_
    refine k_istore (L' := [_, _, _, _, _, _, _, _, _]) dX1_bestMove_36 (Nat.le_of_ble_eq_true rfl) rfl ?_
    refine lp_moveIn hr hrl hV ha (c := c) (by omega) (by omega) (fun G3 j7 j8 hI3 => ?_) 0 (by omega) _ _ ⟨fun x y h1 h2 _ => hI.1 x y h1 h2, hI.2⟩
    refine k_iinc (L' := [_, _, _, _, _, _, _, _, _]) dX1_bestMove_101 rfl (Nat.le_of_ble_eq_true rfl) rfl ?_
    refine k_goto 17 dX1_bestMove_104 (by decide) ?_
    rw [show 48 * (c + 1) = 48 * c + 48 by omega] at ih
    exact ih _ _ _ _ hI3
theorem m_bestMove {G G1 : Mem} {r : Nat} (hr : Rd r) (hrl : r + 12 < 65) (hV : Vok (rv G r)) (hI : LI 65 G G1) {a : Int} (ha : 0 ≤ a ∧ a ≤ 60) : MP M_X1_bestMove [.ref 64, .ref r, .int (iI a)] G1 (vi fun v g => (vMv (rv G r) a (48 * (G r 2).toNat)).1 = v ∧ LI 65 G g) := by
  refine MP.of [some (.ref 64), some (.ref r), some (.int (iI a)), none, none, none, none, none, none] (plainFor_of_name pn_X1) (Nat.le_of_ble_eq_true rfl) rfl ?_
  refine k_iconst dX1_bestMove_0 ?_
  refine k_istore_n (L' := [_, _, _, _, _, _, _, _, _]) dX1_bestMove_1 (Nat.le_of_ble_eq_true rfl) rfl ?_
  refine k_aload_n dX1_bestMove_2 rfl ?_
  refine k_aload_n dX1_bestMove_3 rfl ?_
  refine k_aload_n dX1_bestMove_4 rfl ?_
  refine k_callVi [] dX1_bestMove_5 s_X1_bestMove_26 rfl (m_allL hr hrl hV hI) rfl (Rd.l0 hr) (Rd.o hr) ⟨_, rfl, rfl⟩ (Nat.le_of_ble_eq_true rfl) ?_
  rintro _ _ ⟨rfl, rfl⟩
  refine k_iload_n dX1_bestMove_8 rfl ?_
  refine k_callVi [.ref _, .int (iI _), .int (iI _)] dX1_bestMove_9 s_X1_bestMove_45 rfl (m_endOfDrive hr hrl hV hI (vAll_lt hV) ha) rfl (Nat.le_of_ble_eq_true rfl) sh_o64 ⟨_, rfl, rfl⟩ (Nat.le_of_ble_eq_true rfl) ?_
  rintro _ G2 ⟨rfl, hI2⟩
  refine k_istore (L' := [_, _, _, _, _, _, _, _, _]) dX1_bestMove_12 (Nat.le_of_ble_eq_true rfl) rfl ?_
  refine k_iconst dX1_bestMove_14 ?_
  refine k_istore (L' := [_, _, _, _, _, _, _, _, _]) dX1_bestMove_15 (Nat.le_of_ble_eq_true rfl) rfl ?_
  exact lp_bestMove hr hrl hV ha 0 (by omega) _ _ _ _ hI2
/-! ===== days ===== -/
def q_lcg (x : Int) : Int := (x * 1103515245 + 12345) % 2147483648
def q_well (w x0 : Int) : Nat → Int × Nat
  | 0 => (x0, 0)
  | k + 1 => (q_lcg (q_well w x0 k).1, if w ≤ q_lcg (q_well w x0 k).1 / 65536 % 100 then (q_well w x0 k).2 ||| 2 ^ k else (q_well w x0 k).2)
theorem q_lcg_b {x : Int} : 0 ≤ q_lcg x ∧ q_lcg x < 2147483648 := by unfold q_lcg; omega
theorem q_well_b {w x0 : Int} (hx : 0 ≤ x0 ∧ x0 < 2147483648) : ∀ k, k ≤ 6 → (0 ≤ (q_well w x0 k).1 ∧ (q_well w x0 k).1 < 2147483648) ∧ (q_well w x0 k).2 < 64
  | 0, _ => ⟨hx, by unfold q_well; omega⟩
  | k + 1, hk => by
    have h := q_well_b (w := w) hx k (by omega)
    have h2 : 2 ^ k < 2 ^ 6 := Nat.pow_lt_pow_right (by decide) (by omega)
    unfold q_well
    refine ⟨q_lcg_b, ?_⟩
    show (if _ then _ else _) < 64
    split
    · exact Nat.or_lt_two_pow (n := 6) h.2 h2
    · exact h.2
def vDays (V : Mem) (w x0 : Int) : Nat → Int × Int
  | 0 => (x0, 0)
  | d + 1 => ((q_well w (vDays V w x0 d).1 (V 0 2).toNat).1, (vDays V w x0 d).2 + vThere V (q_well w (vDays V w x0 d).1 (V 0 2).toNat).2 0)
theorem vDays_b {V : Mem} (hV : Vok V) {w x0 : Int} (hx : 0 ≤ x0 ∧ x0 < 2147483648) : ∀ d : Nat, (0 ≤ (vDays V w x0 d).1 ∧ (vDays V w x0 d).1 < 2147483648) ∧ 0 ≤ (vDays V w x0 d).2 ∧ (vDays V w x0 d).2 ≤ 61 * d
  | 0 => ⟨hx, by unfold vDays; omega⟩
  | d + 1 => by
    have h := vDays_b hV (w := w) hx d
    have h2 := hV.2.2.1
    have h3 := q_well_b (w := w) h.1 (V 0 2).toNat (by omega)
    have h4 := vThere_b (V := V) (set := (q_well w (vDays V w x0 d).1 (V 0 2).toNat).2) (a := 0) (by omega)
    unfold vDays
    refine ⟨h3.1, ?_⟩
    show 0 ≤ _ + _ ∧ _ + _ ≤ _
    omega
theorem lp_daysIn {G : Mem} {r : Nat} (hr : Rd r) (hrl : r + 12 < 65) (hV : Vok (rv G r)) {sd n w x0 sum : Int} (hw : 0 ≤ w ∧ w ≤ 100) (hx : 0 ≤ x0 ∧ x0 < 2147483648) {G1 : Mem} (hI : LI 65 G G1) {j8 : Int} {Post : Option Value → Mem → Prop} (hk : RP M_X1_minutesOfDays 79 [some (.ref 64), some (.ref r), some (.int (iI sd)), some (.int (iI n)), some (.int (iI w)), some (.long (lI (q_well w x0 (G r 2).toNat).1)), none, some (.int (iI sum)), some (.int (iI j8)), some (.int (iI ((q_well w x0 (G r 2).toNat).2 : Int))), some (.int (iI ((G r 2).toNat : Int)))] [] G1 Post) : ∀ c : Nat, c ≤ (G r 2).toNat → RP M_X1_minutesOfDays 22 [some (.ref 64), some (.ref r), some (.int (iI sd)), some (.int (iI n)), some (.int (iI w)), some (.long (lI (q_well w x0 c).1)), none, some (.int (iI sum)), some (.int (iI j8)), some (.int (iI ((q_well w x0 c).2 : Int))), some (.int (iI (c : Int)))] [] G1 Post := by
  have hn : 0 ≤ G r 2 ∧ G r 2 ≤ 6 := hV.2.2.1
  have e2 : G1 r 2 = G r 2 := hI.1 r 2 (by omega) (by omega)
  refine cnt ?_ (fun c hc ih => ?_)
  · skip
    refine k_iload dX1_minutesOfDays_22 rfl ?_
    refine k_aload_n dX1_minutesOfDays_24 rfl ?_
    refine k_getI dX1_minutesOfDays_25 f_X1_67 (Rd.l0 hr) (Rd.o hr) (fun _ => rfl) ?_
    refine k_icmp_ge 79 dX1_minutesOfDays_28 (by decide) ⟨by omega, by omega⟩ ⟨by omega, by omega⟩ (fun h28 => ?_) (fun h28 => absurd h28 (by omega))
    exact hk
  · skip
    have bw := q_well_b (w := w) hx c (by omega)
    have e : q_well w x0 (c + 1) = (q_lcg (q_well w x0 c).1, if w ≤ q_lcg (q_well w x0 c).1 / 65536 % 100 then (q_well w x0 c).2 ||| 2 ^ c else (q_well w x0 c).2) := rfl
    have bl := q_lcg_b (x := (q_well w x0 c).1)
    refine k_iload dX1_minutesOfDays_22 rfl ?_
    refine k_aload_n dX1_minutesOfDays_24 rfl ?_
    refine k_getI dX1_minutesOfDays_25 f_X1_67 (Rd.l0 hr) (Rd.o hr) (fun _ => rfl) ?_
    refine k_icmp_ge 79 dX1_minutesOfDays_28 (by decide) ⟨by omega, by omega⟩ ⟨by omega, by omega⟩ (fun h28 => absurd h28 (by omega)) (fun h28 => ?_)
    refine k_lload dX1_minutesOfDays_31 rfl ?_
    refine k_ldc2 1103515245 dX1_minutesOfDays_33 w_777 ?_
    refine k_lmul dX1_minutesOfDays_36 ?_
    refine k_ldc2 12345 dX1_minutesOfDays_37 w_778 ?_
    refine k_ladd dX1_minutesOfDays_40 ?_
    refine k_ldc2 2147483648 dX1_minutesOfDays_41 w_779 ?_
    refine k_lrem dX1_minutesOfDays_44 (by omega) (by omega) ?_
    rw [show ((q_well w x0 c).1 * 1103515245 + 12345) % 2147483648 = q_lcg (q_well w x0 c).1 from rfl]
    refine k_lstore (L' := [_, _, _, _, _, _, _, _, _, _, _]) dX1_minutesOfDays_45 (Nat.le_of_ble_eq_true rfl) rfl ?_
    refine k_lload dX1_minutesOfDays_47 rfl ?_
    refine k_ldc2 65536 dX1_minutesOfDays_49 w_780 ?_
    refine k_ldiv dX1_minutesOfDays_52 (by omega) (by omega) ?_
    refine k_ldc2 100 dX1_minutesOfDays_53 w_781 ?_
    refine k_lrem dX1_minutesOfDays_56 (by omega) (by omega) ?_
    refine k_iload dX1_minutesOfDays_57 rfl ?_
    refine k_i2l dX1_minutesOfDays_59 ⟨by omega, by omega⟩ ?_
    refine k_lcmp dX1_minutesOfDays_60 ⟨by omega, by omega⟩ ⟨by omega, by omega⟩ ?_
    refine k_if_lt 73 dX1_minutesOfDays_61 (by decide) (by split <;> (try split) <;> decide) (fun h61 => ?_) (fun h61 => ?_)
    · skip
      refine k_iinc (L' := [_, _, _, _, _, _, _, _, _, _, _]) dX1_minutesOfDays_73 rfl (Nat.le_of_ble_eq_true rfl) rfl ?_
      refine k_goto 22 dX1_minutesOfDays_76 (by decide) ?_
      rw [e] at ih
      first | (rw [if_neg (by omega)] at ih; exact ih) | (rw [if_pos (by omega)] at ih; exact ih)
    · skip
      refine k_iload dX1_minutesOfDays_64 rfl ?_
      refine k_iconst dX1_minutesOfDays_66 ?_
      refine k_iload dX1_minutesOfDays_67 rfl ?_
      refine k_ishl c dX1_minutesOfDays_69 rfl (by omega) ?_
      refine k_ior _ _ dX1_minutesOfDays_70 rfl rfl ?_
      refine k_istore (L' := [_, _, _, _, _, _, _, _, _, _, _]) dX1_minutesOfDays_71 (Nat.le_of_ble_eq_true rfl) rfl ?_
      refine k_iinc (L' := [_, _, _, _, _, _, _, _, _, _, _]) dX1_minutesOfDays_73 rfl (Nat.le_of_ble_eq_true rfl) rfl ?_
      refine k_goto 22 dX1_minutesOfDays_76 (by decide) ?_
      rw [e] at ih
      first | (rw [if_neg (by omega)] at ih; exact ih) | (rw [if_pos (by omega)] at ih; exact ih)
theorem lp_days {G : Mem} {r : Nat} (hr : Rd r) (hrl : r + 12 < 65) (hV : Vok (rv G r)) {sd n w : Int} (hn0 : 0 ≤ n ∧ n ≤ 30) (hw : 0 ≤ w ∧ w ≤ 100) (hx : 0 ≤ sd ∧ sd < 2147483648) : ∀ d : Nat, d ≤ n.toNat → ∀ (G1 : Mem) (j9 j10 : Option Value), LI 65 G G1 → RP M_X1_minutesOfDays 10 [some (.ref 64), some (.ref r), some (.int (iI sd)), some (.int (iI n)), some (.int (iI w)), some (.long (lI (vDays (rv G r) w sd d).1)), none, some (.int (iI (vDays (rv G r) w sd d).2)), some (.int (iI (d : Int))), j9, j10] [] G1 (vi fun v g => (vDays (rv G r) w sd n.toNat).2 = v ∧ LI 65 G g) := by
  have hn : 0 ≤ G r 2 ∧ G r 2 ≤ 6 := hV.2.2.1
  refine cnt (fun G1 j9 j10 hI => ?_) (fun d hd ih G1 j9 j10 hI => ?_)
  · skip
    refine k_iload dX1_minutesOfDays_10 rfl ?_
    refine k_iload_n dX1_minutesOfDays_12 rfl ?_
    refine k_icmp_ge 98 dX1_minutesOfDays_13 (by decide) ⟨by omega, by omega⟩ ⟨by omega, by omega⟩ (fun h13 => ?_) (fun h13 => absurd h13 (by omega))
    refine k_iload dX1_minutesOfDays_98 rfl ?_
    exact k_iret dX1_minutesOfDays_100 rfl ⟨_, rfl, rfl, hI⟩
  · skip
    have bd := vDays_b hV (w := w) hx d
    have bw := q_well_b (w := w) bd.1 (G r 2).toNat (by omega)
    refine k_iload dX1_minutesOfDays_10 rfl ?_
    refine k_iload_n dX1_minutesOfDays_12 rfl ?_
    refine k_icmp_ge 98 dX1_minutesOfDays_13 (by decide) ⟨by omega, by omega⟩ ⟨by omega, by omega⟩ (fun h13 => absurd h13 (by omega)) (fun h13 => ?_)
    refine k_iconst dX1_minutesOfDays_16 ?_
    refine k_istore (L' := [_, _, _, _, _, _, _, _, _, _, _]) dX1_minutesOfDays_17 (Nat.le_of_ble_eq_true rfl) rfl ?_
    refine k_iconst dX1_minutesOfDays_19 ?_
    refine k_istore (L' := [_, _, _, _, _, _, _, _, _, _, _]) dX1_minutesOfDays_20 (Nat.le_of_ble_eq_true rfl) rfl ?_
    refine lp_daysIn hr hrl hV hw bd.1 hI ?_ 0 (by omega)
    refine k_iload dX1_minutesOfDays_79 rfl ?_
    refine k_aload_n dX1_minutesOfDays_81 rfl ?_
    refine k_aload_n dX1_minutesOfDays_82 rfl ?_
    refine k_iload dX1_minutesOfDays_83 rfl ?_
    refine k_iconst dX1_minutesOfDays_85 ?_
    refine k_callVi [.ref _, .int (iI _), .int (iI _)] dX1_minutesOfDays_86 s_X1_minutesOfDays_45 rfl (m_endOfDrive hr hrl hV hI bw.2 (by omega)) rfl (Nat.le_of_ble_eq_true rfl) sh_o64 ⟨_, rfl, rfl⟩ (Nat.le_of_ble_eq_true rfl) ?_
    rintro _ G2 ⟨rfl, hI2⟩
    refine k_iadd dX1_minutesOfDays_89 ?_
    refine k_istore (L' := [_, _, _, _, _, _, _, _, _, _, _]) dX1_minutesOfDays_90 (Nat.le_of_ble_eq_true rfl) rfl ?_
    refine k_iinc (L' := [_, _, _, _, _, _, _, _, _, _, _]) dX1_minutesOfDays_92 rfl (Nat.le_of_ble_eq_true rfl) rfl ?_
    refine k_goto 10 dX1_minutesOfDays_95 (by decide) ?_
    exact ih _ _ _ hI2
theorem m_minutesOfDays {G G1 : Mem} {r : Nat} (hr : Rd r) (hrl : r + 12 < 65) (hV : Vok (rv G r)) (hI : LI 65 G G1) {sd n w : Int} (hn0 : 0 ≤ n ∧ n ≤ 30) (hw : 0 ≤ w ∧ w ≤ 100) (hx : 0 ≤ sd ∧ sd < 2147483648) : MP M_X1_minutesOfDays [.ref 64, .ref r, .int (iI sd), .int (iI n), .int (iI w)] G1 (vi fun v g => (vDays (rv G r) w sd n.toNat).2 = v ∧ LI 65 G g) := by
  refine MP.of [some (.ref 64), some (.ref r), some (.int (iI sd)), some (.int (iI n)), some (.int (iI w)), none, none, none, none, none, none] (plainFor_of_name pn_X1) (Nat.le_of_ble_eq_true rfl) rfl ?_
  refine k_iload_n dX1_minutesOfDays_0 rfl ?_
  refine k_i2l dX1_minutesOfDays_1 ⟨by omega, by omega⟩ ?_
  refine k_lstore (L' := [_, _, _, _, _, _, _, _, _, _, _]) dX1_minutesOfDays_2 (Nat.le_of_ble_eq_true rfl) rfl ?_
  refine k_iconst dX1_minutesOfDays_4 ?_
  refine k_istore (L' := [_, _, _, _, _, _, _, _, _, _, _]) dX1_minutesOfDays_5 (Nat.le_of_ble_eq_true rfl) rfl ?_
  refine k_iconst dX1_minutesOfDays_7 ?_
  refine k_istore (L' := [_, _, _, _, _, _, _, _, _, _, _]) dX1_minutesOfDays_8 (Nat.le_of_ble_eq_true rfl) rfl ?_
  exact lp_days hr hrl hV hn0 hw hx 0 (by omega) _ _ _ hI
/-! ===== a drive by speeds ===== -/
def vCe (V : Mem) : Nat → Int
  | 0 => 0
  | i + 1 => min 47 (vCe V i + V 6 i)
def vOv (V : Mem) (a : Int) (i : Nat) : Int := V 6 i - vLim V (a + i) (vAll V) (vCe V i)
def vFi (V : Mem) (a : Int) : Nat → Int
  | 0 => -1
  | i + 1 => if 0 < vOv V a i ∧ vFi V a i = -1 then i else vFi V a i
def vFe (V : Mem) (a : Int) : Nat → Int
  | 0 => 0
  | i + 1 => if 0 < vOv V a i then vFe V a i + vOv V a i else vFe V a i
def vPa (V : Mem) (a : Int) : Nat → Nat
  | 0 => 0
  | i + 1 => if vCe V i < vCe V (i + 1) then vPa V a i ||| q_ob (vP V (a + i)) (vH V (a + i)) (vCe V i) (vCe V (i + 1)) (V 0 2).toNat else vPa V a i
def vNs (V : Mem) (a : Int) : Nat := (min (V 0 8) (60 - a)).toNat
def Sok (V : Mem) : Prop := (0 ≤ V 0 8 ∧ V 0 8 ≤ 20) ∧ ∀ i, 0 ≤ V 6 i ∧ V 6 i ≤ 15
theorem vCe_b {V : Mem} (h : Sok V) : ∀ i, 0 ≤ vCe V i ∧ vCe V i ≤ 47
  | 0 => by unfold vCe; omega
  | i + 1 => by
    have := vCe_b h i
    have := h.2 i
    unfold vCe
    omega
theorem vFi_b {V : Mem} {a : Int} : ∀ i : Nat, -1 ≤ vFi V a i ∧ vFi V a i ≤ i
  | 0 => by unfold vFi; omega
  | i + 1 => by
    have := vFi_b (V := V) (a := a) i
    unfold vFi
    split <;> omega
theorem vFe_b {V : Mem} (hV : Vok V) (h : Sok V) {a : Int} (ha : 0 ≤ a) : ∀ i : Nat, a + i ≤ 60 → 0 ≤ vFe V a i ∧ vFe V a i ≤ 15 * i
  | 0, _ => by unfold vFe; omega
  | i + 1, hi => by
    have h1 := vFe_b hV h ha i (by omega)
    have h2 := vLim_b hV (t := a + i) (by omega) (vAll V) (vCe V i)
    have h3 := h.2 i
    unfold vFe vOv
    split <;> omega
theorem m_obL {G G1 : Mem} {l r : Nat} (hl : Lm l) (hr : Rd r) (hrl : r + 12 < l) (hV : Vok (rv G r)) {t : Int} (hS : SeeI G r l t (G r 2).toNat G1) {a b : Int} (ha : 0 ≤ a ∧ a ≤ 47) (hb : 0 ≤ b ∧ b ≤ 47) : MP M_X4_outBetween [.ref l, .ref r, .int (iI a), .int (iI b)] G1 (vx ((q_ob (vP (rv G r) t) (vH (rv G r) t) a b (G r 2).toNat : Nat) : Int) G1) := by
  have e2 : G1 r 2 = G r 2 := hS.1 r 2 (by omega) (by omega)
  have h2 : 0 ≤ G r 2 ∧ G r 2 ≤ 6 := hV.2.2.1
  have h := m_outBetween hl hr hS.2.2 (by rw [e2]; exact h2) ha hb
  rw [e2, q_ob_c (P' := vP (rv G r) t) (H' := vH (rv G r) t) _ (fun j hj => hS.2.1 j hj)] at h
  exact h
theorem lp_speeds {G : Mem} {r : Nat} (hr : Rd r) (hrl : r + 12 < 65) (hV : Vok (rv G r)) (hs : Sok (rv G r)) {a : Int} (ha : 0 ≤ a ∧ a < 60) {what : Nat} (hw : what < 3) : ∀ i : Nat, i ≤ vNs (rv G r) a → ∀ (G1 : Mem) (j9 j10 : Option Value), LI 65 G G1 → RP M_X1_driveBySpeeds 15 [some (.ref 64), some (.ref r), some (.int (iI a)), some (.int (iI (what : Int))), some (.int (iI (vFi (rv G r) a i))), some (.int (iI (vFe (rv G r) a i))), some (.int (iI (vPa (rv G r) a i : Int))), some (.int (iI (vCe (rv G r) i))), some (.int (iI (i : Int))), j9, j10] [] G1 (vi fun v g => (if what = 0 then vFi (rv G r) a (vNs (rv G r) a) else if what = 1 then vFe (rv G r) a (vNs (rv G r) a) else (vPa (rv G r) a (vNs (rv G r) a) : Int)) = v ∧ LI 65 G g) := by
  have hn : 0 ≤ G r 2 ∧ G r 2 ≤ 6 := hV.2.2.1
  have hs8 : 0 ≤ G r 8 ∧ G r 8 ≤ 20 := hs.1
  have hns : vNs (rv G r) a = (min (G r 8) (60 - a)).toNat := rfl
  refine cnt (fun G1 j9 j10 hI => ?_) (fun i hi ih G1 j9 j10 hI => ?_)
  · skip
    have e8 : G1 r 8 = G r 8 := hI.1 r 8 (by omega) (by omega)
    refine k_iload dX1_driveBySpeeds_15 rfl ?_
    refine k_aload_n dX1_driveBySpeeds_17 rfl ?_
    refine k_getI dX1_driveBySpeeds_18 f_X1_48 (Rd.l0 hr) (Rd.o hr) (fun _ => rfl) ?_
    refine k_icmp_ge 147 dX1_driveBySpeeds_21 (by decide) ⟨by omega, by omega⟩ ⟨by omega, by omega⟩ (fun h21 => ?_) (fun h21 => ?_)
    · skip
      refine k_iload_n dX1_driveBySpeeds_147 rfl ?_
      refine k_if_ne 154 dX1_driveBySpeeds_148 (by decide) ⟨by omega, by omega⟩ (fun h148 => ?_) (fun h148 => ?_)
      · skip
        refine k_iload_n dX1_driveBySpeeds_154 rfl ?_
        refine k_iconst dX1_driveBySpeeds_155 ?_
        refine k_icmp_ne 164 dX1_driveBySpeeds_156 (by decide) ⟨by omega, by omega⟩ ⟨by decide, by decide⟩ (fun h156 => ?_) (fun h156 => ?_)
        · skip
          refine k_iload dX1_driveBySpeeds_164 rfl ?_
          exact k_iret dX1_driveBySpeeds_166 rfl ⟨_, rfl, by first | exact if_pos (by omega) | (rw [if_neg (by omega), if_pos (by omega)]; done) | (rw [if_neg (by omega), if_neg (by omega)]; done), hI⟩
        · skip
          refine k_iload dX1_driveBySpeeds_159 rfl ?_
          refine k_goto 166 dX1_driveBySpeeds_161 (by decide) ?_
          exact k_iret dX1_driveBySpeeds_166 rfl ⟨_, rfl, by first | exact if_pos (by omega) | (rw [if_neg (by omega), if_pos (by omega)]; done) | (rw [if_neg (by omega), if_neg (by omega)]; done), hI⟩
      · skip
        refine k_iload dX1_driveBySpeeds_151 rfl ?_
        exact k_iret dX1_driveBySpeeds_153 rfl ⟨_, rfl, by first | exact if_pos (by omega) | (rw [if_neg (by omega), if_pos (by omega)]; done) | (rw [if_neg (by omega), if_neg (by omega)]; done), hI⟩
    · skip
      refine k_iload_n dX1_driveBySpeeds_24 rfl ?_
      refine k_iload dX1_driveBySpeeds_25 rfl ?_
      refine k_iadd dX1_driveBySpeeds_27 ?_
      refine k_bipush dX1_driveBySpeeds_28 (by decide) ?_
      refine k_icmp_ge 147 dX1_driveBySpeeds_30 (by decide) ⟨by omega, by omega⟩ ⟨by decide, by decide⟩ (fun h30 => ?_) (fun h30 => absurd h30 (by omega))
      refine k_iload_n dX1_driveBySpeeds_147 rfl ?_
      refine k_if_ne 154 dX1_driveBySpeeds_148 (by decide) ⟨by omega, by omega⟩ (fun h148 => ?_) (fun h148 => ?_)
      · skip
        refine k_iload_n dX1_driveBySpeeds_154 rfl ?_
        refine k_iconst dX1_driveBySpeeds_155 ?_
        refine k_icmp_ne 164 dX1_driveBySpeeds_156 (by decide) ⟨by omega, by omega⟩ ⟨by decide, by decide⟩ (fun h156 => ?_) (fun h156 => ?_)
        · skip
          refine k_iload dX1_driveBySpeeds_164 rfl ?_
          exact k_iret dX1_driveBySpeeds_166 rfl ⟨_, rfl, by first | exact if_pos (by omega) | (rw [if_neg (by omega), if_pos (by omega)]; done) | (rw [if_neg (by omega), if_neg (by omega)]; done), hI⟩
        · skip
          refine k_iload dX1_driveBySpeeds_159 rfl ?_
          refine k_goto 166 dX1_driveBySpeeds_161 (by decide) ?_
          exact k_iret dX1_driveBySpeeds_166 rfl ⟨_, rfl, by first | exact if_pos (by omega) | (rw [if_neg (by omega), if_pos (by omega)]; done) | (rw [if_neg (by omega), if_neg (by omega)]; done), hI⟩
      · skip
        refine k_iload dX1_driveBySpeeds_151 rfl ?_
        exact k_iret dX1_driveBySpeeds_153 rfl ⟨_, rfl, by first | exact if_pos (by omega) | (rw [if_neg (by omega), if_pos (by omega)]; done) | (rw [if_neg (by omega), if_neg (by omega)]; done), hI⟩
  · skip
    have e8 : G1 r 8 = G r 8 := hI.1 r 8 (by omega) (by omega)
    have bc := vCe_b hs i
    have bc1 := vCe_b hs (i + 1)
    have bf := vFi_b (V := rv G r) (a := a) i
    have bg := vFe_b hV hs (a := a) ha.1 i (by omega)
    have b6 : 0 ≤ G (r + 6) i ∧ G (r + 6) i ≤ 15 := hs.2 i
    have ef : vFi (rv G r) a (i + 1) = if 0 < vOv (rv G r) a i ∧ vFi (rv G r) a i = -1 then (i : Int) else vFi (rv G r) a i := rfl
    have eg : vFe (rv G r) a (i + 1) = if 0 < vOv (rv G r) a i then vFe (rv G r) a i + vOv (rv G r) a i else vFe (rv G r) a i := rfl
    have ep : vPa (rv G r) a (i + 1) = if vCe (rv G r) i < vCe (rv G r) (i + 1) then vPa (rv G r) a i ||| q_ob (vP (rv G r) (a + i)) (vH (rv G r) (a + i)) (vCe (rv G r) i) (vCe (rv G r) (i + 1)) (G r 2).toNat else vPa (rv G r) a i := rfl
    have ec : min 47 (vCe (rv G r) i + G (r + 6) i) = vCe (rv G r) (i + 1) := rfl
    refine k_iload dX1_driveBySpeeds_15 rfl ?_
    refine k_aload_n dX1_driveBySpeeds_17 rfl ?_
    refine k_getI dX1_driveBySpeeds_18 f_X1_48 (Rd.l0 hr) (Rd.o hr) (fun _ => rfl) ?_
    refine k_icmp_ge 147 dX1_driveBySpeeds_21 (by decide) ⟨by omega, by omega⟩ ⟨by omega, by omega⟩ (fun h21 => absurd h21 (by omega)) (fun h21 => ?_)
    refine k_iload_n dX1_driveBySpeeds_24 rfl ?_
    refine k_iload dX1_driveBySpeeds_25 rfl ?_
    refine k_iadd dX1_driveBySpeeds_27 ?_
    refine k_bipush dX1_driveBySpeeds_28 (by decide) ?_
    refine k_icmp_ge 147 dX1_driveBySpeeds_30 (by decide) ⟨by omega, by omega⟩ ⟨by decide, by decide⟩ (fun h30 => absurd h30 (by omega)) (fun h30 => ?_)
    refine k_aload_n dX1_driveBySpeeds_33 rfl ?_
    refine k_getR dX1_driveBySpeeds_34 f_X1_12 (Nat.le_of_ble_eq_true rfl) sh_o64 (fun _ => rfl) ?_
    refine k_aload_n dX1_driveBySpeeds_37 rfl ?_
    refine k_iload_n dX1_driveBySpeeds_38 rfl ?_
    refine k_iload dX1_driveBySpeeds_39 rfl ?_
    refine k_iadd dX1_driveBySpeeds_41 ?_
    refine k_callVv [.ref _, .int (iI _)] dX1_driveBySpeeds_42 s_X1_driveBySpeeds_22 rfl (m_seeL lm65 hr hrl hV hI (by omega)) rfl (Nat.le_of_ble_eq_true rfl) (Lm.o lm65) ⟨_, rfl, rfl⟩ (Nat.le_of_ble_eq_true rfl) ?_
    rintro G2 hS
    have e6 : G2 (r + 6) i = G (r + 6) i := hS.1 (r + 6) i (by omega) (by omega)
    refine k_aload_n dX1_driveBySpeeds_45 rfl ?_
    refine k_getR dX1_driveBySpeeds_46 f_X1_52 (Rd.l0 hr) (Rd.o hr) (fun _ => rfl) ?_
    refine k_iload dX1_driveBySpeeds_49 rfl ?_
    refine k_iald i dX1_driveBySpeeds_51 (Rd.l6 hr) (Rd.a6 hr) (by decide) (by omega) (by omega) ?_
    refine k_aload_n dX1_driveBySpeeds_52 rfl ?_
    refine k_getR dX1_driveBySpeeds_53 f_X1_12 (Nat.le_of_ble_eq_true rfl) sh_o64 (fun _ => rfl) ?_
    refine k_aload_n dX1_driveBySpeeds_56 rfl ?_
    refine k_aload_n dX1_driveBySpeeds_57 rfl ?_
    refine k_callVi [] dX1_driveBySpeeds_58 s_X1_driveBySpeeds_26 rfl (m_allL hr hrl hV hS.li) rfl (Rd.l0 hr) (Rd.o hr) ⟨_, rfl, rfl⟩ (Nat.le_of_ble_eq_true rfl) ?_
    rintro _ _ ⟨rfl, rfl⟩
    refine k_iload dX1_driveBySpeeds_61 rfl ?_
    refine k_callVi [.ref _, .int (iI _), .int (iI _)] dX1_driveBySpeeds_63 s_X1_driveBySpeeds_32 rfl (m_limL lm65 hr hrl hV hS (vAll_lt hV) (by omega)) rfl (Nat.le_of_ble_eq_true rfl) (Lm.o lm65) ⟨_, rfl, rfl⟩ (Nat.le_of_ble_eq_true rfl) ?_
    rintro _ _ ⟨rfl, rfl⟩
    have bl := vLim_b hV (t := a + i) (by omega) (vAll (rv G r)) (vCe (rv G r) i)
    skip
    refine k_isub dX1_driveBySpeeds_66 ?_
    rw [e6, show G (r + 6) i - vLim (rv G r) (a + i) (vAll (rv G r)) (vCe (rv G r) i) = vOv (rv G r) a i from rfl]
    have bo : -10 ≤ vOv (rv G r) a i ∧ vOv (rv G r) a i ≤ 15 := (by unfold vOv; show -10 ≤ G (r + 6) i - _ ∧ G (r + 6) i - _ ≤ 15; omega)
    refine k_istore (L' := [_, _, _, _, _, _, _, _, _, _, _]) dX1_driveBySpeeds_67 (Nat.le_of_ble_eq_true rfl) rfl ?_
    refine k_iload dX1_driveBySpeeds_69 rfl ?_
    refine k_if_le 96 dX1_driveBySpeeds_71 (by decide) ⟨by omega, by omega⟩ (fun h71 => ?_) (fun h71 => ?_)
    · skip
      refine k_bipush dX1_driveBySpeeds_96 (by decide) ?_
      refine k_iload dX1_driveBySpeeds_98 rfl ?_
      refine k_aload_n dX1_driveBySpeeds_100 rfl ?_
      refine k_getR dX1_driveBySpeeds_101 f_X1_52 (Rd.l0 hr) (Rd.o hr) (fun _ => rfl) ?_
      refine k_iload dX1_driveBySpeeds_104 rfl ?_
      refine k_iald i dX1_driveBySpeeds_106 (Rd.l6 hr) (Rd.a6 hr) (by decide) (by omega) (by omega) ?_
      refine k_iadd dX1_driveBySpeeds_107 ?_
      rw [e6]
      refine k_callSi [.int (iI _), .int (iI _)] dX1_driveBySpeeds_108 s_X1_driveBySpeeds_36 rfl (m_min ⟨by omega, by omega⟩ ⟨by omega, by omega⟩) rfl (Nat.le_of_ble_eq_true rfl) ?_
      rintro _ _ ⟨rfl, rfl⟩
      rw [ec]
      refine k_istore (L' := [_, _, _, _, _, _, _, _, _, _, _]) dX1_driveBySpeeds_111 (Nat.le_of_ble_eq_true rfl) rfl ?_
      refine k_iload dX1_driveBySpeeds_113 rfl ?_
      refine k_iload dX1_driveBySpeeds_115 rfl ?_
      refine k_icmp_le 137 dX1_driveBySpeeds_117 (by decide) ⟨by omega, by omega⟩ ⟨by omega, by omega⟩ (fun h117 => ?_) (fun h117 => ?_)
      · skip
        refine k_iload dX1_driveBySpeeds_137 rfl ?_
        refine k_istore (L' := [_, _, _, _, _, _, _, _, _, _, _]) dX1_driveBySpeeds_139 (Nat.le_of_ble_eq_true rfl) rfl ?_
        refine k_iinc (L' := [_, _, _, _, _, _, _, _, _, _, _]) dX1_driveBySpeeds_141 rfl (Nat.le_of_ble_eq_true rfl) rfl ?_
        refine k_goto 15 dX1_driveBySpeeds_144 (by decide) ?_
        rw [ef, eg, ep] at ih
        first | rw [if_pos (show 0 < vOv (rv G r) a i ∧ vFi (rv G r) a i = -1 from ⟨by omega, by omega⟩)] at ih | rw [if_neg (show ¬ (0 < vOv (rv G r) a i ∧ vFi (rv G r) a i = -1) from fun z => by omega)] at ih
        first | rw [if_pos (show 0 < vOv (rv G r) a i from by omega)] at ih | rw [if_neg (show ¬ 0 < vOv (rv G r) a i from by omega)] at ih
        first | rw [if_pos (show vCe (rv G r) i < vCe (rv G r) (i + 1) from by omega)] at ih | rw [if_neg (show ¬ vCe (rv G r) i < vCe (rv G r) (i + 1) from by omega)] at ih
        exact ih _ _ _ hS.li
      · skip
        refine k_iload dX1_driveBySpeeds_120 rfl ?_
        refine k_aload_n dX1_driveBySpeeds_122 rfl ?_
        refine k_getR dX1_driveBySpeeds_123 f_X1_12 (Nat.le_of_ble_eq_true rfl) sh_o64 (fun _ => rfl) ?_
        refine k_aload_n dX1_driveBySpeeds_126 rfl ?_
        refine k_iload dX1_driveBySpeeds_127 rfl ?_
        refine k_iload dX1_driveBySpeeds_129 rfl ?_
        refine k_callVi [.ref _, .int (iI _), .int (iI _)] dX1_driveBySpeeds_131 s_X1_driveBySpeeds_55 rfl (m_obL lm65 hr hrl hV hS (by omega) (by omega)) rfl (Nat.le_of_ble_eq_true rfl) (Lm.o lm65) ⟨_, rfl, rfl⟩ (Nat.le_of_ble_eq_true rfl) ?_
        rintro _ _ ⟨rfl, rfl⟩
        refine k_ior _ _ dX1_driveBySpeeds_134 rfl rfl ?_
        refine k_istore (L' := [_, _, _, _, _, _, _, _, _, _, _]) dX1_driveBySpeeds_135 (Nat.le_of_ble_eq_true rfl) rfl ?_
        refine k_iload dX1_driveBySpeeds_137 rfl ?_
        refine k_istore (L' := [_, _, _, _, _, _, _, _, _, _, _]) dX1_driveBySpeeds_139 (Nat.le_of_ble_eq_true rfl) rfl ?_
        refine k_iinc (L' := [_, _, _, _, _, _, _, _, _, _, _]) dX1_driveBySpeeds_141 rfl (Nat.le_of_ble_eq_true rfl) rfl ?_
        refine k_goto 15 dX1_driveBySpeeds_144 (by decide) ?_
        rw [ef, eg, ep] at ih
        first | rw [if_pos (show 0 < vOv (rv G r) a i ∧ vFi (rv G r) a i = -1 from ⟨by omega, by omega⟩)] at ih | rw [if_neg (show ¬ (0 < vOv (rv G r) a i ∧ vFi (rv G r) a i = -1) from fun z => by omega)] at ih
        first | rw [if_pos (show 0 < vOv (rv G r) a i from by omega)] at ih | rw [if_neg (show ¬ 0 < vOv (rv G r) a i from by omega)] at ih
        first | rw [if_pos (show vCe (rv G r) i < vCe (rv G r) (i + 1) from by omega)] at ih | rw [if_neg (show ¬ vCe (rv G r) i < vCe (rv G r) (i + 1) from by omega)] at ih
        exact ih _ _ _ hS.li
    · skip
      refine k_iload dX1_driveBySpeeds_74 rfl ?_
      refine k_iload dX1_driveBySpeeds_76 rfl ?_
      refine k_iadd dX1_driveBySpeeds_78 ?_
      refine k_istore (L' := [_, _, _, _, _, _, _, _, _, _, _]) dX1_driveBySpeeds_79 (Nat.le_of_ble_eq_true rfl) rfl ?_
      refine k_iload dX1_driveBySpeeds_81 rfl ?_
      refine k_iconst dX1_driveBySpeeds_83 ?_
      refine k_icmp_ne 92 dX1_driveBySpeeds_84 (by decide) ⟨by omega, by omega⟩ ⟨by decide, by decide⟩ (fun h84 => ?_) (fun h84 => ?_)
      · skip
        refine k_iload dX1_driveBySpeeds_92 rfl ?_
        refine k_istore (L' := [_, _, _, _, _, _, _, _, _, _, _]) dX1_driveBySpeeds_94 (Nat.le_of_ble_eq_true rfl) rfl ?_
        refine k_bipush dX1_driveBySpeeds_96 (by decide) ?_
        refine k_iload dX1_driveBySpeeds_98 rfl ?_
        refine k_aload_n dX1_driveBySpeeds_100 rfl ?_
        refine k_getR dX1_driveBySpeeds_101 f_X1_52 (Rd.l0 hr) (Rd.o hr) (fun _ => rfl) ?_
        refine k_iload dX1_driveBySpeeds_104 rfl ?_
        refine k_iald i dX1_driveBySpeeds_106 (Rd.l6 hr) (Rd.a6 hr) (by decide) (by omega) (by omega) ?_
        refine k_iadd dX1_driveBySpeeds_107 ?_
        rw [e6]
        refine k_callSi [.int (iI _), .int (iI _)] dX1_driveBySpeeds_108 s_X1_driveBySpeeds_36 rfl (m_min ⟨by omega, by omega⟩ ⟨by omega, by omega⟩) rfl (Nat.le_of_ble_eq_true rfl) ?_
        rintro _ _ ⟨rfl, rfl⟩
        rw [ec]
        refine k_istore (L' := [_, _, _, _, _, _, _, _, _, _, _]) dX1_driveBySpeeds_111 (Nat.le_of_ble_eq_true rfl) rfl ?_
        refine k_iload dX1_driveBySpeeds_113 rfl ?_
        refine k_iload dX1_driveBySpeeds_115 rfl ?_
        refine k_icmp_le 137 dX1_driveBySpeeds_117 (by decide) ⟨by omega, by omega⟩ ⟨by omega, by omega⟩ (fun h117 => ?_) (fun h117 => ?_)
        · skip
          refine k_iload dX1_driveBySpeeds_137 rfl ?_
          refine k_istore (L' := [_, _, _, _, _, _, _, _, _, _, _]) dX1_driveBySpeeds_139 (Nat.le_of_ble_eq_true rfl) rfl ?_
          refine k_iinc (L' := [_, _, _, _, _, _, _, _, _, _, _]) dX1_driveBySpeeds_141 rfl (Nat.le_of_ble_eq_true rfl) rfl ?_
          refine k_goto 15 dX1_driveBySpeeds_144 (by decide) ?_
          rw [ef, eg, ep] at ih
          first | rw [if_pos (show 0 < vOv (rv G r) a i ∧ vFi (rv G r) a i = -1 from ⟨by omega, by omega⟩)] at ih | rw [if_neg (show ¬ (0 < vOv (rv G r) a i ∧ vFi (rv G r) a i = -1) from fun z => by omega)] at ih
          first | rw [if_pos (show 0 < vOv (rv G r) a i from by omega)] at ih | rw [if_neg (show ¬ 0 < vOv (rv G r) a i from by omega)] at ih
          first | rw [if_pos (show vCe (rv G r) i < vCe (rv G r) (i + 1) from by omega)] at ih | rw [if_neg (show ¬ vCe (rv G r) i < vCe (rv G r) (i + 1) from by omega)] at ih
          exact ih _ _ _ hS.li
        · skip
          refine k_iload dX1_driveBySpeeds_120 rfl ?_
          refine k_aload_n dX1_driveBySpeeds_122 rfl ?_
          refine k_getR dX1_driveBySpeeds_123 f_X1_12 (Nat.le_of_ble_eq_true rfl) sh_o64 (fun _ => rfl) ?_
          refine k_aload_n dX1_driveBySpeeds_126 rfl ?_
          refine k_iload dX1_driveBySpeeds_127 rfl ?_
          refine k_iload dX1_driveBySpeeds_129 rfl ?_
          refine k_callVi [.ref _, .int (iI _), .int (iI _)] dX1_driveBySpeeds_131 s_X1_driveBySpeeds_55 rfl (m_obL lm65 hr hrl hV hS (by omega) (by omega)) rfl (Nat.le_of_ble_eq_true rfl) (Lm.o lm65) ⟨_, rfl, rfl⟩ (Nat.le_of_ble_eq_true rfl) ?_
          rintro _ _ ⟨rfl, rfl⟩
          refine k_ior _ _ dX1_driveBySpeeds_134 rfl rfl ?_
          refine k_istore (L' := [_, _, _, _, _, _, _, _, _, _, _]) dX1_driveBySpeeds_135 (Nat.le_of_ble_eq_true rfl) rfl ?_
          refine k_iload dX1_driveBySpeeds_137 rfl ?_
          refine k_istore (L' := [_, _, _, _, _, _, _, _, _, _, _]) dX1_driveBySpeeds_139 (Nat.le_of_ble_eq_true rfl) rfl ?_
          refine k_iinc (L' := [_, _, _, _, _, _, _, _, _, _, _]) dX1_driveBySpeeds_141 rfl (Nat.le_of_ble_eq_true rfl) rfl ?_
          refine k_goto 15 dX1_driveBySpeeds_144 (by decide) ?_
          rw [ef, eg, ep] at ih
          first | rw [if_pos (show 0 < vOv (rv G r) a i ∧ vFi (rv G r) a i = -1 from ⟨by omega, by omega⟩)] at ih | rw [if_neg (show ¬ (0 < vOv (rv G r) a i ∧ vFi (rv G r) a i = -1) from fun z => by omega)] at ih
          first | rw [if_pos (show 0 < vOv (rv G r) a i from by omega)] at ih | rw [if_neg (show ¬ 0 < vOv (rv G r) a i from by omega)] at ih
          first | rw [if_pos (show vCe (rv G r) i < vCe (rv G r) (i + 1) from by omega)] at ih | rw [if_neg (show ¬ vCe (rv G r) i < vCe (rv G r) (i + 1) from by omega)] at ih
          exact ih _ _ _ hS.li
      · skip
        refine k_iload dX1_driveBySpeeds_87 rfl ?_
        refine k_goto 94 dX1_driveBySpeeds_89 (by decide) ?_
        refine k_istore (L' := [_, _, _, _, _, _, _, _, _, _, _]) dX1_driveBySpeeds_94 (Nat.le_of_ble_eq_true rfl) rfl ?_
        refine k_bipush dX1_driveBySpeeds_96 (by decide) ?_
        refine k_iload dX1_driveBySpeeds_98 rfl ?_
        refine k_aload_n dX1_driveBySpeeds_100 rfl ?_
        refine k_getR dX1_driveBySpeeds_101 f_X1_52 (Rd.l0 hr) (Rd.o hr) (fun _ => rfl) ?_
        refine k_iload dX1_driveBySpeeds_104 rfl ?_
        refine k_iald i dX1_driveBySpeeds_106 (Rd.l6 hr) (Rd.a6 hr) (by decide) (by omega) (by omega) ?_
        refine k_iadd dX1_driveBySpeeds_107 ?_
        rw [e6]
        refine k_callSi [.int (iI _), .int (iI _)] dX1_driveBySpeeds_108 s_X1_driveBySpeeds_36 rfl (m_min ⟨by omega, by omega⟩ ⟨by omega, by omega⟩) rfl (Nat.le_of_ble_eq_true rfl) ?_
        rintro _ _ ⟨rfl, rfl⟩
        rw [ec]
        refine k_istore (L' := [_, _, _, _, _, _, _, _, _, _, _]) dX1_driveBySpeeds_111 (Nat.le_of_ble_eq_true rfl) rfl ?_
        refine k_iload dX1_driveBySpeeds_113 rfl ?_
        refine k_iload dX1_driveBySpeeds_115 rfl ?_
        refine k_icmp_le 137 dX1_driveBySpeeds_117 (by decide) ⟨by omega, by omega⟩ ⟨by omega, by omega⟩ (fun h117 => ?_) (fun h117 => ?_)
        · skip
          refine k_iload dX1_driveBySpeeds_137 rfl ?_
          refine k_istore (L' := [_, _, _, _, _, _, _, _, _, _, _]) dX1_driveBySpeeds_139 (Nat.le_of_ble_eq_true rfl) rfl ?_
          refine k_iinc (L' := [_, _, _, _, _, _, _, _, _, _, _]) dX1_driveBySpeeds_141 rfl (Nat.le_of_ble_eq_true rfl) rfl ?_
          refine k_goto 15 dX1_driveBySpeeds_144 (by decide) ?_
          rw [ef, eg, ep] at ih
          first | rw [if_pos (show 0 < vOv (rv G r) a i ∧ vFi (rv G r) a i = -1 from ⟨by omega, by omega⟩)] at ih | rw [if_neg (show ¬ (0 < vOv (rv G r) a i ∧ vFi (rv G r) a i = -1) from fun z => by omega)] at ih
          first | rw [if_pos (show 0 < vOv (rv G r) a i from by omega)] at ih | rw [if_neg (show ¬ 0 < vOv (rv G r) a i from by omega)] at ih
          first | rw [if_pos (show vCe (rv G r) i < vCe (rv G r) (i + 1) from by omega)] at ih | rw [if_neg (show ¬ vCe (rv G r) i < vCe (rv G r) (i + 1) from by omega)] at ih
          exact ih _ _ _ hS.li
        · skip
          refine k_iload dX1_driveBySpeeds_120 rfl ?_
          refine k_aload_n dX1_driveBySpeeds_122 rfl ?_
          refine k_getR dX1_driveBySpeeds_123 f_X1_12 (Nat.le_of_ble_eq_true rfl) sh_o64 (fun _ => rfl) ?_
          refine k_aload_n dX1_driveBySpeeds_126 rfl ?_
          refine k_iload dX1_driveBySpeeds_127 rfl ?_
          refine k_iload dX1_driveBySpeeds_129 rfl ?_
          refine k_callVi [.ref _, .int (iI _), .int (iI _)] dX1_driveBySpeeds_131 s_X1_driveBySpeeds_55 rfl (m_obL lm65 hr hrl hV hS (by omega) (by omega)) rfl (Nat.le_of_ble_eq_true rfl) (Lm.o lm65) ⟨_, rfl, rfl⟩ (Nat.le_of_ble_eq_true rfl) ?_
          rintro _ _ ⟨rfl, rfl⟩
          refine k_ior _ _ dX1_driveBySpeeds_134 rfl rfl ?_
          refine k_istore (L' := [_, _, _, _, _, _, _, _, _, _, _]) dX1_driveBySpeeds_135 (Nat.le_of_ble_eq_true rfl) rfl ?_
          refine k_iload dX1_driveBySpeeds_137 rfl ?_
          refine k_istore (L' := [_, _, _, _, _, _, _, _, _, _, _]) dX1_driveBySpeeds_139 (Nat.le_of_ble_eq_true rfl) rfl ?_
          refine k_iinc (L' := [_, _, _, _, _, _, _, _, _, _, _]) dX1_driveBySpeeds_141 rfl (Nat.le_of_ble_eq_true rfl) rfl ?_
          refine k_goto 15 dX1_driveBySpeeds_144 (by decide) ?_
          rw [ef, eg, ep] at ih
          first | rw [if_pos (show 0 < vOv (rv G r) a i ∧ vFi (rv G r) a i = -1 from ⟨by omega, by omega⟩)] at ih | rw [if_neg (show ¬ (0 < vOv (rv G r) a i ∧ vFi (rv G r) a i = -1) from fun z => by omega)] at ih
          first | rw [if_pos (show 0 < vOv (rv G r) a i from by omega)] at ih | rw [if_neg (show ¬ 0 < vOv (rv G r) a i from by omega)] at ih
          first | rw [if_pos (show vCe (rv G r) i < vCe (rv G r) (i + 1) from by omega)] at ih | rw [if_neg (show ¬ vCe (rv G r) i < vCe (rv G r) (i + 1) from by omega)] at ih
          exact ih _ _ _ hS.li
theorem m_driveBySpeeds {G G1 : Mem} {r : Nat} (hr : Rd r) (hrl : r + 12 < 65) (hV : Vok (rv G r)) (hI : LI 65 G G1) (hs : Sok (rv G r)) {a : Int} (ha : 0 ≤ a ∧ a < 60) {what : Nat} (hw : what < 3) : MP M_X1_driveBySpeeds [.ref 64, .ref r, .int (iI a), .int (iI (what : Int))] G1 (vi fun v g => (if what = 0 then vFi (rv G r) a (vNs (rv G r) a) else if what = 1 then vFe (rv G r) a (vNs (rv G r) a) else (vPa (rv G r) a (vNs (rv G r) a) : Int)) = v ∧ LI 65 G g) := by
  refine MP.of [some (.ref 64), some (.ref r), some (.int (iI a)), some (.int (iI (what : Int))), none, none, none, none, none, none, none] (plainFor_of_name pn_X1) (Nat.le_of_ble_eq_true rfl) rfl ?_
  refine k_iconst dX1_driveBySpeeds_0 ?_
  refine k_istore (L' := [_, _, _, _, _, _, _, _, _, _, _]) dX1_driveBySpeeds_1 (Nat.le_of_ble_eq_true rfl) rfl ?_
  refine k_iconst dX1_driveBySpeeds_3 ?_
  refine k_istore (L' := [_, _, _, _, _, _, _, _, _, _, _]) dX1_driveBySpeeds_4 (Nat.le_of_ble_eq_true rfl) rfl ?_
  refine k_iconst dX1_driveBySpeeds_6 ?_
  refine k_istore (L' := [_, _, _, _, _, _, _, _, _, _, _]) dX1_driveBySpeeds_7 (Nat.le_of_ble_eq_true rfl) rfl ?_
  refine k_iconst dX1_driveBySpeeds_9 ?_
  refine k_istore (L' := [_, _, _, _, _, _, _, _, _, _, _]) dX1_driveBySpeeds_10 (Nat.le_of_ble_eq_true rfl) rfl ?_
  refine k_iconst dX1_driveBySpeeds_12 ?_
  refine k_istore (L' := [_, _, _, _, _, _, _, _, _, _, _]) dX1_driveBySpeeds_13 (Nat.le_of_ble_eq_true rfl) rfl ?_
  exact lp_speeds hr hrl hV hs ha hw 0 (by omega) _ _ _ hI
