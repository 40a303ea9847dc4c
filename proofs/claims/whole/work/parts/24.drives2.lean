/-! ===== carters ===== -/
def q_get (e : Nat → Int) (o p : Nat) : Int := if e o = 61 then 0 else 100 - e o - (if p < o ∧ o - p ≤ 2 then 4 else 0)
def q_bst (e : Nat → Int) (o p : Nat) : Nat → Bool
  | 0 => true
  | i + 1 => q_bst e o p i && decide (q_get e i p ≤ q_get e o p)
def q_rest (e : Nat → Int) (o p : Nat) : Bool := q_bst e o p 6 && q_bst e p o 6
def q_cnt (e : Nat → Int) : Nat → Int
  | 0 => 0
  | k + 1 => if q_rest e (k / 6) (k % 6) = true then q_cnt e k + 1 else q_cnt e k
def q_fst (e : Nat → Int) : Nat → Int
  | 0 => -1
  | k + 1 => if q_rest e (k / 6) (k % 6) = true ∧ q_cnt e k = 0 then 10 * ((k / 6 : Nat) : Int) + ((k % 6 : Nat) : Int) else q_fst e k
theorem q_bst_mono {e : Nat → Int} {o p i : Nat} (h : q_bst e o p i = false) : ∀ d, q_bst e o p (i + d) = false
  | 0 => h
  | d + 1 => by
    show (q_bst e o p (i + d) && _) = false
    rw [q_bst_mono h d]
    rfl
theorem q_cnt_b {e : Nat → Int} : ∀ k, 0 ≤ q_cnt e k ∧ q_cnt e k ≤ k
  | 0 => by unfold q_cnt; omega
  | k + 1 => by
    have := q_cnt_b (e := e) k
    unfold q_cnt
    split <;> omega
theorem q_get_b {e : Nat → Int} (he : ∀ j, 0 ≤ e j ∧ e j ≤ 61) (o p : Nat) : -100 ≤ q_get e o p ∧ q_get e o p ≤ 100 := by
  have := he o
  unfold q_get
  split
  · omega
  · split <;> omega
theorem m_getsAgainst {G : Mem} (he : ∀ j, 0 ≤ G 74 j ∧ G 74 j ≤ 61) {o p : Nat} (ho : o < 6) (hp : p < 6) : MP M_X1_getsAgainst [.ref 64, .int (iI (o : Int)), .int (iI (p : Int))] G (vx (q_get (G 74) o p) G) := by
  have b := he o
  refine MP.of [some (.ref 64), some (.int (iI (o : Int))), some (.int (iI (p : Int))), none] (plainFor_of_name pn_X1) (Nat.le_of_ble_eq_true rfl) rfl ?_
  refine k_aload_n dX1_getsAgainst_0 rfl ?_
  refine k_getR dX1_getsAgainst_1 f_X1_18 (Nat.le_of_ble_eq_true rfl) sh_o64 (fun _ => rfl) ?_
  refine k_iload_n dX1_getsAgainst_4 rfl ?_
  refine k_iald o dX1_getsAgainst_5 (Nat.le_of_ble_eq_true rfl) sh_a74 (by decide) (by omega) (by omega) ?_
  refine k_bipush dX1_getsAgainst_6 (by decide) ?_
  refine k_icmp_ne 13 dX1_getsAgainst_8 (by decide) ⟨by omega, by omega⟩ ⟨by decide, by decide⟩ (fun h8 => ?_) (fun h8 => ?_)
  · skip
    refine k_iload_n dX1_getsAgainst_13 rfl ?_
    refine k_iload_n dX1_getsAgainst_14 rfl ?_
    refine k_icmp_le 29 dX1_getsAgainst_15 (by decide) ⟨by omega, by omega⟩ ⟨by omega, by omega⟩ (fun h15 => ?_) (fun h15 => ?_)
    · skip
      refine k_iconst dX1_getsAgainst_29 ?_
      refine k_istore_n (L' := [_, _, _, _]) dX1_getsAgainst_30 (Nat.le_of_ble_eq_true rfl) rfl ?_
      refine k_bipush dX1_getsAgainst_31 (by decide) ?_
      refine k_aload_n dX1_getsAgainst_33 rfl ?_
      refine k_getR dX1_getsAgainst_34 f_X1_18 (Nat.le_of_ble_eq_true rfl) sh_o64 (fun _ => rfl) ?_
      refine k_iload_n dX1_getsAgainst_37 rfl ?_
      refine k_iald o dX1_getsAgainst_38 (Nat.le_of_ble_eq_true rfl) sh_a74 (by decide) (by omega) (by omega) ?_
      refine k_isub dX1_getsAgainst_39 ?_
      refine k_iload_n dX1_getsAgainst_40 rfl ?_
      refine k_if_eq 48 dX1_getsAgainst_41 (by decide) ⟨by decide, by decide⟩ (fun h41 => ?_) (fun h41 => ?_)
      · skip
        refine k_iconst dX1_getsAgainst_48 ?_
        refine k_isub dX1_getsAgainst_49 ?_
        exact k_iret dX1_getsAgainst_50 rfl ⟨_, rfl, by unfold q_get; first | (rw [if_pos (by omega)]; done) | (rw [if_neg (by omega), if_pos (by omega)]; done) | (rw [if_neg (by omega), if_neg (by omega)]; done), rfl⟩
      · skip
        refine k_iconst dX1_getsAgainst_44 ?_
        refine k_goto 49 dX1_getsAgainst_45 (by decide) ?_
        refine k_isub dX1_getsAgainst_49 ?_
        exact k_iret dX1_getsAgainst_50 rfl ⟨_, rfl, by unfold q_get; first | (rw [if_pos (by omega)]; done) | (rw [if_neg (by omega), if_pos (by omega)]; done) | (rw [if_neg (by omega), if_neg (by omega)]; done), rfl⟩
    · skip
      refine k_iload_n dX1_getsAgainst_18 rfl ?_
      refine k_iload_n dX1_getsAgainst_19 rfl ?_
      refine k_isub dX1_getsAgainst_20 ?_
      refine k_iconst dX1_getsAgainst_21 ?_
      refine k_icmp_gt 29 dX1_getsAgainst_22 (by decide) ⟨by omega, by omega⟩ ⟨by decide, by decide⟩ (fun h22 => ?_) (fun h22 => ?_)
      · skip
        refine k_iconst dX1_getsAgainst_29 ?_
        refine k_istore_n (L' := [_, _, _, _]) dX1_getsAgainst_30 (Nat.le_of_ble_eq_true rfl) rfl ?_
        refine k_bipush dX1_getsAgainst_31 (by decide) ?_
        refine k_aload_n dX1_getsAgainst_33 rfl ?_
        refine k_getR dX1_getsAgainst_34 f_X1_18 (Nat.le_of_ble_eq_true rfl) sh_o64 (fun _ => rfl) ?_
        refine k_iload_n dX1_getsAgainst_37 rfl ?_
        refine k_iald o dX1_getsAgainst_38 (Nat.le_of_ble_eq_true rfl) sh_a74 (by decide) (by omega) (by omega) ?_
        refine k_isub dX1_getsAgainst_39 ?_
        refine k_iload_n dX1_getsAgainst_40 rfl ?_
        refine k_if_eq 48 dX1_getsAgainst_41 (by decide) ⟨by decide, by decide⟩ (fun h41 => ?_) (fun h41 => ?_)
        · skip
          refine k_iconst dX1_getsAgainst_48 ?_
          refine k_isub dX1_getsAgainst_49 ?_
          exact k_iret dX1_getsAgainst_50 rfl ⟨_, rfl, by unfold q_get; first | (rw [if_pos (by omega)]; done) | (rw [if_neg (by omega), if_pos (by omega)]; done) | (rw [if_neg (by omega), if_neg (by omega)]; done), rfl⟩
        · skip
          refine k_iconst dX1_getsAgainst_44 ?_
          refine k_goto 49 dX1_getsAgainst_45 (by decide) ?_
          refine k_isub dX1_getsAgainst_49 ?_
          exact k_iret dX1_getsAgainst_50 rfl ⟨_, rfl, by unfold q_get; first | (rw [if_pos (by omega)]; done) | (rw [if_neg (by omega), if_pos (by omega)]; done) | (rw [if_neg (by omega), if_neg (by omega)]; done), rfl⟩
      · skip
        refine k_iconst dX1_getsAgainst_25 ?_
        refine k_goto 30 dX1_getsAgainst_26 (by decide) ?_
        refine k_istore_n (L' := [_, _, _, _]) dX1_getsAgainst_30 (Nat.le_of_ble_eq_true rfl) rfl ?_
        refine k_bipush dX1_getsAgainst_31 (by decide) ?_
        refine k_aload_n dX1_getsAgainst_33 rfl ?_
        refine k_getR dX1_getsAgainst_34 f_X1_18 (Nat.le_of_ble_eq_true rfl) sh_o64 (fun _ => rfl) ?_
        refine k_iload_n dX1_getsAgainst_37 rfl ?_
        refine k_iald o dX1_getsAgainst_38 (Nat.le_of_ble_eq_true rfl) sh_a74 (by decide) (by omega) (by omega) ?_
        refine k_isub dX1_getsAgainst_39 ?_
        refine k_iload_n dX1_getsAgainst_40 rfl ?_
        refine k_if_eq 48 dX1_getsAgainst_41 (by decide) ⟨by decide, by decide⟩ (fun h41 => ?_) (fun h41 => ?_)
        · skip
          refine k_iconst dX1_getsAgainst_48 ?_
          refine k_isub dX1_getsAgainst_49 ?_
          exact k_iret dX1_getsAgainst_50 rfl ⟨_, rfl, by unfold q_get; first | (rw [if_pos (by omega)]; done) | (rw [if_neg (by omega), if_pos (by omega)]; done) | (rw [if_neg (by omega), if_neg (by omega)]; done), rfl⟩
        · skip
          refine k_iconst dX1_getsAgainst_44 ?_
          refine k_goto 49 dX1_getsAgainst_45 (by decide) ?_
          refine k_isub dX1_getsAgainst_49 ?_
          exact k_iret dX1_getsAgainst_50 rfl ⟨_, rfl, by unfold q_get; first | (rw [if_pos (by omega)]; done) | (rw [if_neg (by omega), if_pos (by omega)]; done) | (rw [if_neg (by omega), if_neg (by omega)]; done), rfl⟩
  · skip
    refine k_iconst dX1_getsAgainst_11 ?_
    exact k_iret dX1_getsAgainst_12 rfl ⟨_, rfl, by unfold q_get; first | (rw [if_pos (by omega)]; done) | (rw [if_neg (by omega), if_pos (by omega)]; done) | (rw [if_neg (by omega), if_neg (by omega)]; done), rfl⟩
theorem lp_isBest {G : Mem} (he : ∀ j, 0 ≤ G 74 j ∧ G 74 j ≤ 61) {o p : Nat} (ho : o < 6) (hp : p < 6) : ∀ i : Nat, i ≤ 6 → q_bst (G 74) o p i = true → RP M_X1_isBestAgainst 10 [some (.ref 64), some (.int (iI (o : Int))), some (.int (iI (p : Int))), some (.int (iI (q_get (G 74) o p))), some (.int (iI (i : Int)))] [] G (vx (bI (q_bst (G 74) o p 6 = true)) G) := by
  have b1 := q_get_b he o p
  refine cnt (fun hq => ?_) (fun i hi ih hq => ?_)
  · skip
    refine k_iload dX1_isBestAgainst_10 rfl ?_
    refine k_bipush dX1_isBestAgainst_12 (by decide) ?_
    refine k_icmp_ge 36 dX1_isBestAgainst_14 (by decide) ⟨by omega, by omega⟩ ⟨by decide, by decide⟩ (fun h14 => ?_) (fun h14 => absurd h14 (by omega))
    refine k_iconst dX1_isBestAgainst_36 ?_
    exact k_zret dX1_isBestAgainst_37 rfl (Or.inr rfl) ⟨_, rfl, bI_t hq, rfl⟩
  · skip
    have b2 := q_get_b he i p
    refine k_iload dX1_isBestAgainst_10 rfl ?_
    refine k_bipush dX1_isBestAgainst_12 (by decide) ?_
    refine k_icmp_ge 36 dX1_isBestAgainst_14 (by decide) ⟨by omega, by omega⟩ ⟨by decide, by decide⟩ (fun h14 => absurd h14 (by omega)) (fun h14 => ?_)
    refine k_aload_n dX1_isBestAgainst_17 rfl ?_
    refine k_iload dX1_isBestAgainst_18 rfl ?_
    refine k_iload_n dX1_isBestAgainst_20 rfl ?_
    refine k_callVi [.int (iI _), .int (iI _)] dX1_isBestAgainst_21 s_X1_isBestAgainst_77 rfl (m_getsAgainst he (by omega) (by omega)) rfl (Nat.le_of_ble_eq_true rfl) sh_o64 ⟨_, rfl, rfl⟩ (Nat.le_of_ble_eq_true rfl) ?_
    rintro _ _ ⟨rfl, rfl⟩
    refine k_iload_n dX1_isBestAgainst_24 rfl ?_
    refine k_icmp_le 30 dX1_isBestAgainst_25 (by decide) ⟨by omega, by omega⟩ ⟨by omega, by omega⟩ (fun h25 => ?_) (fun h25 => ?_)
    · skip
      refine k_iinc (L' := [_, _, _, _, _]) dX1_isBestAgainst_30 rfl (Nat.le_of_ble_eq_true rfl) rfl ?_
      refine k_goto 10 dX1_isBestAgainst_33 (by decide) ?_
      exact ih (by show (q_bst (G 74) o p i && decide (q_get (G 74) i p ≤ q_get (G 74) o p)) = true; rw [hq, decide_eq_true (by omega)]; rfl)
    · skip
      refine k_iconst dX1_isBestAgainst_28 ?_
      exact k_zret dX1_isBestAgainst_29 rfl (Or.inl rfl) ⟨_, rfl, bI_f (fun z => by have z2 : q_bst (G 74) o p (i + 1) = false := (by show (q_bst (G 74) o p i && decide (q_get (G 74) i p ≤ q_get (G 74) o p)) = false; rw [decide_eq_false (by omega), Bool.and_false]); have z3 := q_bst_mono z2 (5 - i); rw [show i + 1 + (5 - i) = 6 by omega, z] at z3; cases z3), rfl⟩
theorem m_isBest {G : Mem} (he : ∀ j, 0 ≤ G 74 j ∧ G 74 j ≤ 61) {o p : Nat} (ho : o < 6) (hp : p < 6) : MP M_X1_isBestAgainst [.ref 64, .int (iI (o : Int)), .int (iI (p : Int))] G (vx (bI (q_bst (G 74) o p 6 = true)) G) := by
  refine MP.of [some (.ref 64), some (.int (iI (o : Int))), some (.int (iI (p : Int))), none, none] (plainFor_of_name pn_X1) (Nat.le_of_ble_eq_true rfl) rfl ?_
  refine k_aload_n dX1_isBestAgainst_0 rfl ?_
  refine k_iload_n dX1_isBestAgainst_1 rfl ?_
  refine k_iload_n dX1_isBestAgainst_2 rfl ?_
  refine k_callVi [.int (iI _), .int (iI _)] dX1_isBestAgainst_3 s_X1_isBestAgainst_77 rfl (m_getsAgainst he (by omega) (by omega)) rfl (Nat.le_of_ble_eq_true rfl) sh_o64 ⟨_, rfl, rfl⟩ (Nat.le_of_ble_eq_true rfl) ?_
  rintro _ _ ⟨rfl, rfl⟩
  refine k_istore_n (L' := [_, _, _, _, _]) dX1_isBestAgainst_6 (Nat.le_of_ble_eq_true rfl) rfl ?_
  refine k_iconst dX1_isBestAgainst_7 ?_
  refine k_istore (L' := [_, _, _, _, _]) dX1_isBestAgainst_8 (Nat.le_of_ble_eq_true rfl) rfl ?_
  exact lp_isBest he ho hp 0 (by omega) rfl
/-- the rows of the limits and the ends have changed alone -/
def EI (G G1 : Mem) : Prop := (∀ a b, a ≠ 72 → a ≠ 73 → a ≠ 74 → G1 a b = G a b) ∧ q_ok (G1 (65 + 7)) (G1 (65 + 8)) ∧ ∀ j, 0 ≤ G1 74 j ∧ G1 74 j ≤ 61
theorem EI.veq {r : Nat} {G G1 : Mem} (h : EI G G1) (hrl : r + 12 < 65) : Veq (rv G r) (rv G1 r) := fun a b ha => (h.1 (r + a) b (by omega) (by omega) (by omega)).symm
theorem Veq.all {V V' : Mem} (h : Veq V V') : vAll V = vAll V' := by
  unfold vAll
  rw [h 0 2 (by omega)]
theorem Veq.end_ {V V' : Mem} (h : Veq V V') (set : Nat) : ∀ (d : Nat) (t x : Int), vEnd V set d t x = vEnd V' set d t x
  | 0, _, _ => rfl
  | d + 1, t, x => by
    unfold vEnd
    rw [h.lim, h.end_ set d]
theorem Veq.there {V V' : Mem} (h : Veq V V') : vThere V = vThere V' := by
  funext set a
  exact h.end_ set _ _ _
/-- the call by a memory that may differ in scratch: the drive's end by the view of the memory then -/
theorem m_endHere {G : Mem} {r : Nat} (hr : Rd r) (hrl : r + 12 < 65) (hV : Vok (rv G r)) (hq : q_ok (G (65 + 7)) (G (65 + 8))) {set : Nat} (hset : set < 64) {a : Int} (ha : 0 ≤ a ∧ a ≤ 60) : MP M_X1_endOfDrive [.ref 64, .ref r, .int (iI (set : Int)), .int (iI a)] G (vi fun v g => vThere (rv G r) set a = v ∧ LI 65 G g) := m_endOfDrive hr hrl hV (LI.rf hq) hset ha
theorem lp_rest3 {G : Mem} (he : ∀ j, 0 ≤ G 74 j ∧ G 74 j ≤ 61) {r : Nat} {a : Int} {what o : Nat} (hw : what < 2) (ho : o < 6) (hk : ∀ j8 : Option Value, RP M_X1_restingPairs 113 [some (.ref 64), some (.ref r), some (.int (iI a)), some (.int (iI (what : Int))), some (.int (iI (q_cnt (G 74) (6 * o + 6)))), some (.int (iI (q_fst (G 74) (6 * o + 6)))), some (.int (iI (o : Int))), j8] [] G (vx (if what = 0 then q_cnt (G 74) 36 else q_fst (G 74) 36) G)) : ∀ p : Nat, p ≤ 6 → RP M_X1_restingPairs 55 [some (.ref 64), some (.ref r), some (.int (iI a)), some (.int (iI (what : Int))), some (.int (iI (q_cnt (G 74) (6 * o + p)))), some (.int (iI (q_fst (G 74) (6 * o + p)))), some (.int (iI (o : Int))), some (.int (iI (p : Int)))] [] G (vx (if what = 0 then q_cnt (G 74) 36 else q_fst (G 74) 36) G) := by
  refine cnt ?_ (fun p hp ih => ?_)
  · skip
    refine k_iload dX1_restingPairs_55 rfl ?_
    refine k_bipush dX1_restingPairs_57 (by decide) ?_
    refine k_icmp_ge 113 dX1_restingPairs_59 (by decide) ⟨by omega, by omega⟩ ⟨by decide, by decide⟩ (fun h59 => ?_) (fun h59 => absurd h59 (by omega))
    exact hk _
  · skip
    have bc := q_cnt_b (e := G 74) (6 * o + p)
    have e1 := q_cnt.eq_2 (G 74) (6 * o + p)
    have e2 := q_fst.eq_2 (G 74) (6 * o + p)
    rw [show (6 * o + p) / 6 = o by omega, show (6 * o + p) % 6 = p by omega] at e1 e2
    refine k_iload dX1_restingPairs_55 rfl ?_
    refine k_bipush dX1_restingPairs_57 (by decide) ?_
    refine k_icmp_ge 113 dX1_restingPairs_59 (by decide) ⟨by omega, by omega⟩ ⟨by decide, by decide⟩ (fun h59 => absurd h59 (by omega)) (fun h59 => ?_)
    refine k_aload_n dX1_restingPairs_62 rfl ?_
    refine k_iload dX1_restingPairs_63 rfl ?_
    refine k_iload dX1_restingPairs_65 rfl ?_
    refine k_callVi [.int (iI _), .int (iI _)] dX1_restingPairs_67 s_X1_restingPairs_73 rfl (m_isBest he (by omega) (by omega)) rfl (Nat.le_of_ble_eq_true rfl) sh_o64 ⟨_, rfl, rfl⟩ (Nat.le_of_ble_eq_true rfl) ?_
    rintro _ _ ⟨rfl, rfl⟩
    refine k_ifb_eq 107 dX1_restingPairs_70 (by decide) (fun h70 => ?_) (fun h70 => ?_)
    · skip
      refine k_iinc (L' := [_, _, _, _, _, _, _, _]) dX1_restingPairs_107 rfl (Nat.le_of_ble_eq_true rfl) rfl ?_
      refine k_goto 55 dX1_restingPairs_110 (by decide) ?_
      have ex : (q_rest (G 74) o p = true) ↔ (q_bst (G 74) o p 6 = true ∧ q_bst (G 74) p o 6 = true) := by unfold q_rest; rw [Bool.and_eq_true]
      first | (rw [if_neg (fun z => by first | exact h70 (ex.mp z).1 | exact h81 (ex.mp z).2)] at e1; rw [if_neg (fun z => by first | exact h70 (ex.mp z.1).1 | exact h81 (ex.mp z.1).2)] at e2; have ih2 := ih; rw [show 6 * o + (p + 1) = 6 * o + p + 1 by omega, e1, e2] at ih2; exact ih2) | (rw [if_pos (ex.mpr ⟨h70, h81⟩)] at e1; (first | (rw [if_pos ⟨ex.mpr ⟨h70, h81⟩, by omega⟩] at e2; done) | (rw [if_neg (fun z => by omega)] at e2; done) | rw [if_pos ⟨ex.mpr ⟨h70, h81⟩, by omega⟩] at e2 | rw [if_neg (fun z => by omega)] at e2); have ih2 := ih; rw [show 6 * o + (p + 1) = 6 * o + p + 1 by omega, e1, e2] at ih2; exact ih2)
    · skip
      refine k_aload_n dX1_restingPairs_73 rfl ?_
      refine k_iload dX1_restingPairs_74 rfl ?_
      refine k_iload dX1_restingPairs_76 rfl ?_
      refine k_callVi [.int (iI _), .int (iI _)] dX1_restingPairs_78 s_X1_restingPairs_73 rfl (m_isBest he (by omega) (by omega)) rfl (Nat.le_of_ble_eq_true rfl) sh_o64 ⟨_, rfl, rfl⟩ (Nat.le_of_ble_eq_true rfl) ?_
      rintro _ _ ⟨rfl, rfl⟩
      refine k_ifb_eq 107 dX1_restingPairs_81 (by decide) (fun h81 => ?_) (fun h81 => ?_)
      · skip
        refine k_iinc (L' := [_, _, _, _, _, _, _, _]) dX1_restingPairs_107 rfl (Nat.le_of_ble_eq_true rfl) rfl ?_
        refine k_goto 55 dX1_restingPairs_110 (by decide) ?_
        have ex : (q_rest (G 74) o p = true) ↔ (q_bst (G 74) o p 6 = true ∧ q_bst (G 74) p o 6 = true) := by unfold q_rest; rw [Bool.and_eq_true]
        first | (rw [if_neg (fun z => by first | exact h70 (ex.mp z).1 | exact h81 (ex.mp z).2)] at e1; rw [if_neg (fun z => by first | exact h70 (ex.mp z.1).1 | exact h81 (ex.mp z.1).2)] at e2; have ih2 := ih; rw [show 6 * o + (p + 1) = 6 * o + p + 1 by omega, e1, e2] at ih2; exact ih2) | (rw [if_pos (ex.mpr ⟨h70, h81⟩)] at e1; (first | (rw [if_pos ⟨ex.mpr ⟨h70, h81⟩, by omega⟩] at e2; done) | (rw [if_neg (fun z => by omega)] at e2; done) | rw [if_pos ⟨ex.mpr ⟨h70, h81⟩, by omega⟩] at e2 | rw [if_neg (fun z => by omega)] at e2); have ih2 := ih; rw [show 6 * o + (p + 1) = 6 * o + p + 1 by omega, e1, e2] at ih2; exact ih2)
      · skip
        refine k_iload dX1_restingPairs_84 rfl ?_
        refine k_if_ne 100 dX1_restingPairs_86 (by decide) ⟨by omega, by omega⟩ (fun h86 => ?_) (fun h86 => ?_)
        · skip
          refine k_iload dX1_restingPairs_100 rfl ?_
          refine k_istore (L' := [_, _, _, _, _, _, _, _]) dX1_restingPairs_102 (Nat.le_of_ble_eq_true rfl) rfl ?_
          refine k_iinc (L' := [_, _, _, _, _, _, _, _]) dX1_restingPairs_104 rfl (Nat.le_of_ble_eq_true rfl) rfl ?_
          refine k_iinc (L' := [_, _, _, _, _, _, _, _]) dX1_restingPairs_107 rfl (Nat.le_of_ble_eq_true rfl) rfl ?_
          refine k_goto 55 dX1_restingPairs_110 (by decide) ?_
          have ex : (q_rest (G 74) o p = true) ↔ (q_bst (G 74) o p 6 = true ∧ q_bst (G 74) p o 6 = true) := by unfold q_rest; rw [Bool.and_eq_true]
          first | (rw [if_neg (fun z => by first | exact h70 (ex.mp z).1 | exact h81 (ex.mp z).2)] at e1; rw [if_neg (fun z => by first | exact h70 (ex.mp z.1).1 | exact h81 (ex.mp z.1).2)] at e2; have ih2 := ih; rw [show 6 * o + (p + 1) = 6 * o + p + 1 by omega, e1, e2] at ih2; exact ih2) | (rw [if_pos (ex.mpr ⟨h70, h81⟩)] at e1; (first | (rw [if_pos ⟨ex.mpr ⟨h70, h81⟩, by omega⟩] at e2; done) | (rw [if_neg (fun z => by omega)] at e2; done) | rw [if_pos ⟨ex.mpr ⟨h70, h81⟩, by omega⟩] at e2 | rw [if_neg (fun z => by omega)] at e2); have ih2 := ih; rw [show 6 * o + (p + 1) = 6 * o + p + 1 by omega, e1, e2] at ih2; exact ih2)
        · skip
          refine k_bipush dX1_restingPairs_89 (by decide) ?_
          refine k_iload dX1_restingPairs_91 rfl ?_
          refine k_imul dX1_restingPairs_93 ?_
          refine k_iload dX1_restingPairs_94 rfl ?_
          refine k_iadd dX1_restingPairs_96 ?_
          refine k_goto 102 dX1_restingPairs_97 (by decide) ?_
          refine k_istore (L' := [_, _, _, _, _, _, _, _]) dX1_restingPairs_102 (Nat.le_of_ble_eq_true rfl) rfl ?_
          refine k_iinc (L' := [_, _, _, _, _, _, _, _]) dX1_restingPairs_104 rfl (Nat.le_of_ble_eq_true rfl) rfl ?_
          refine k_iinc (L' := [_, _, _, _, _, _, _, _]) dX1_restingPairs_107 rfl (Nat.le_of_ble_eq_true rfl) rfl ?_
          refine k_goto 55 dX1_restingPairs_110 (by decide) ?_
          have ex : (q_rest (G 74) o p = true) ↔ (q_bst (G 74) o p 6 = true ∧ q_bst (G 74) p o 6 = true) := by unfold q_rest; rw [Bool.and_eq_true]
          first | (rw [if_neg (fun z => by first | exact h70 (ex.mp z).1 | exact h81 (ex.mp z).2)] at e1; rw [if_neg (fun z => by first | exact h70 (ex.mp z.1).1 | exact h81 (ex.mp z.1).2)] at e2; have ih2 := ih; rw [show 6 * o + (p + 1) = 6 * o + p + 1 by omega, e1, e2] at ih2; exact ih2) | (rw [if_pos (ex.mpr ⟨h70, h81⟩)] at e1; (first | (rw [if_pos ⟨ex.mpr ⟨h70, h81⟩, by omega⟩] at e2; done) | (rw [if_neg (fun z => by omega)] at e2; done) | rw [if_pos ⟨ex.mpr ⟨h70, h81⟩, by omega⟩] at e2 | rw [if_neg (fun z => by omega)] at e2); have ih2 := ih; rw [show 6 * o + (p + 1) = 6 * o + p + 1 by omega, e1, e2] at ih2; exact ih2)
theorem lp_rest2 {G : Mem} (he : ∀ j, 0 ≤ G 74 j ∧ G 74 j ≤ 61) {r : Nat} {a : Int} {what : Nat} (hw : what < 2) : ∀ o : Nat, o ≤ 6 → ∀ j7 : Option Value, RP M_X1_restingPairs 45 [some (.ref 64), some (.ref r), some (.int (iI a)), some (.int (iI (what : Int))), some (.int (iI (q_cnt (G 74) (6 * o)))), some (.int (iI (q_fst (G 74) (6 * o)))), some (.int (iI (o : Int))), j7] [] G (vx (if what = 0 then q_cnt (G 74) 36 else q_fst (G 74) 36) G) := by
  refine cnt (fun j7 => ?_) (fun o ho ih j7 => ?_)
  · skip
    refine k_iload dX1_restingPairs_45 rfl ?_
    refine k_bipush dX1_restingPairs_47 (by decide) ?_
    refine k_icmp_ge 119 dX1_restingPairs_49 (by decide) ⟨by omega, by omega⟩ ⟨by decide, by decide⟩ (fun h49 => ?_) (fun h49 => absurd h49 (by omega))
    refine k_iload_n dX1_restingPairs_119 rfl ?_
    refine k_if_ne 128 dX1_restingPairs_120 (by decide) ⟨by omega, by omega⟩ (fun h120 => ?_) (fun h120 => ?_)
    · skip
      refine k_iload dX1_restingPairs_128 rfl ?_
      exact k_iret dX1_restingPairs_130 rfl ⟨_, rfl, by first | exact if_pos (by omega) | exact if_neg (by omega), rfl⟩
    · skip
      refine k_iload dX1_restingPairs_123 rfl ?_
      refine k_goto 130 dX1_restingPairs_125 (by decide) ?_
      exact k_iret dX1_restingPairs_130 rfl ⟨_, rfl, by first | exact if_pos (by omega) | exact if_neg (by omega), rfl⟩
  · skip
    refine k_iload dX1_restingPairs_45 rfl ?_
    refine k_bipush dX1_restingPairs_47 (by decide) ?_
    refine k_icmp_ge 119 dX1_restingPairs_49 (by decide) ⟨by omega, by omega⟩ ⟨by decide, by decide⟩ (fun h49 => absurd h49 (by omega)) (fun h49 => ?_)
    refine k_iconst dX1_restingPairs_52 ?_
    refine k_istore (L' := [_, _, _, _, _, _, _, _]) dX1_restingPairs_53 (Nat.le_of_ble_eq_true rfl) rfl ?_
    refine lp_rest3 he hw ho (fun j8 => ?_) 0 (by omega)
    refine k_iinc (L' := [_, _, _, _, _, _, _, _]) dX1_restingPairs_113 rfl (Nat.le_of_ble_eq_true rfl) rfl ?_
    refine k_goto 45 dX1_restingPairs_116 (by decide) ?_
    exact ih _
theorem lp_rest1 {G : Mem} {r : Nat} (hr : Rd r) (hrl : r + 12 < 65) (hV : Vok (rv G r)) {a : Int} (ha : 0 ≤ a ∧ a ≤ 50) {what : Nat} (hw : what < 2) : ∀ i : Nat, i ≤ 6 → ∀ (G1 : Mem) (j5 j6 j7 : Option Value), EI G G1 → (∀ j, j < i → G1 74 j = vThere (rv G r) (vAll (rv G r)) (a + j)) → RP M_X1_restingPairs 3 [some (.ref 64), some (.ref r), some (.int (iI a)), some (.int (iI (what : Int))), some (.int (iI (i : Int))), j5, j6, j7] [] G1 (vi fun v g => (∃ e : Nat → Int, (∀ j, j < 6 → e j = vThere (rv G r) (vAll (rv G r)) (a + j)) ∧ (if what = 0 then q_cnt e 36 else q_fst e 36) = v) ∧ EI G g) := by
  refine cnt (fun G1 j5 j6 j7 hI hd => ?_) (fun i hi ih G1 j5 j6 j7 hI hd => ?_)
  · skip
    refine k_iload dX1_restingPairs_3 rfl ?_
    refine k_bipush dX1_restingPairs_5 (by decide) ?_
    refine k_icmp_ge 36 dX1_restingPairs_7 (by decide) ⟨by omega, by omega⟩ ⟨by decide, by decide⟩ (fun h7 => ?_) (fun h7 => absurd h7 (by omega))
    refine k_iconst dX1_restingPairs_36 ?_
    refine k_istore (L' := [_, _, _, _, _, _, _, _]) dX1_restingPairs_37 (Nat.le_of_ble_eq_true rfl) rfl ?_
    refine k_iconst dX1_restingPairs_39 ?_
    refine k_istore (L' := [_, _, _, _, _, _, _, _]) dX1_restingPairs_40 (Nat.le_of_ble_eq_true rfl) rfl ?_
    refine k_iconst dX1_restingPairs_42 ?_
    refine k_istore (L' := [_, _, _, _, _, _, _, _]) dX1_restingPairs_43 (Nat.le_of_ble_eq_true rfl) rfl ?_
    refine (lp_rest2 hI.2.2 hw 0 (by omega) _).mono ?_
    rintro o g ⟨v, h1, h2, rfl⟩
    exact ⟨v, h1, ⟨G1 74, hd, h2⟩, hI⟩
  · skip
    have hV1 := (hI.veq hrl).ok hV
    have bt := vThere_b (V := rv G1 r) (set := vAll (rv G1 r)) (a := a + i) (by omega)
    refine k_iload dX1_restingPairs_3 rfl ?_
    refine k_bipush dX1_restingPairs_5 (by decide) ?_
    refine k_icmp_ge 36 dX1_restingPairs_7 (by decide) ⟨by omega, by omega⟩ ⟨by decide, by decide⟩ (fun h7 => absurd h7 (by omega)) (fun h7 => ?_)
    refine k_aload_n dX1_restingPairs_10 rfl ?_
    refine k_getR dX1_restingPairs_11 f_X1_18 (Nat.le_of_ble_eq_true rfl) sh_o64 (fun _ => rfl) ?_
    refine k_iload dX1_restingPairs_14 rfl ?_
    refine k_aload_n dX1_restingPairs_16 rfl ?_
    refine k_aload_n dX1_restingPairs_17 rfl ?_
    refine k_aload_n dX1_restingPairs_18 rfl ?_
    refine k_callVi [] dX1_restingPairs_19 s_X1_restingPairs_26 rfl (m_allL hr hrl hV1 (LI.rf hI.2.1)) rfl (Rd.l0 hr) (Rd.o hr) ⟨_, rfl, rfl⟩ (Nat.le_of_ble_eq_true rfl) ?_
    rintro _ _ ⟨rfl, rfl⟩
    refine k_iload_n dX1_restingPairs_22 rfl ?_
    refine k_iload dX1_restingPairs_23 rfl ?_
    refine k_iadd dX1_restingPairs_25 ?_
    refine k_callVi [.ref _, .int (iI _), .int (iI _)] dX1_restingPairs_26 s_X1_restingPairs_45 rfl (m_endHere hr hrl hV1 hI.2.1 (vAll_lt hV1) (by omega)) rfl (Nat.le_of_ble_eq_true rfl) sh_o64 ⟨_, rfl, rfl⟩ (Nat.le_of_ble_eq_true rfl) ?_
    rintro _ G2 ⟨rfl, hI2⟩
    refine k_iast i dX1_restingPairs_29 (Nat.le_of_ble_eq_true rfl) sh_a74 (by decide) (by omega) (by omega) ?_
    refine k_iinc (L' := [_, _, _, _, _, _, _, _]) dX1_restingPairs_30 rfl (Nat.le_of_ble_eq_true rfl) rfl ?_
    refine k_goto 3 dX1_restingPairs_33 (by decide) ?_
    refine ih _ _ _ _ ⟨fun x y hx hy hz => ?_, ?_, fun j => ?_⟩ (fun j hj => ?_)
    · rw [ug_nc hz, hI2.1 x y hx hy, hI.1 x y hx hy hz]
    · show q_ok (ug G2 74 i _ (65 + 7)) (ug G2 74 i _ (65 + 8))
      rw [show ug G2 74 i (vThere (rv G1 r) (vAll (rv G1 r)) (a + i)) (65 + 7) = G2 (65 + 7) from funext (fun y => ug_nc (by decide)), show ug G2 74 i (vThere (rv G1 r) (vAll (rv G1 r)) (a + i)) (65 + 8) = G2 (65 + 8) from funext (fun y => ug_nc (by decide))]
      exact hI2.2
    · by_cases e : j = i
      · subst e
        rw [ug_at]
        exact bt
      · rw [ug_np e, hI2.1 74 j (by decide) (by decide)]
        exact hI.2.2 j
    · by_cases e : j = i
      · subst e
        rw [ug_at, ← (hI.veq hrl).there, ← (hI.veq hrl).all]
      · rw [ug_np e, hI2.1 74 j (by decide) (by decide)]
        exact hd j (by omega)
theorem m_restingPairs {G : Mem} {r : Nat} (hr : Rd r) (hrl : r + 12 < 65) (hV : Vok (rv G r)) (hI : EI G G) {a : Int} (ha : 0 ≤ a ∧ a ≤ 50) {what : Nat} (hw : what < 2) : MP M_X1_restingPairs [.ref 64, .ref r, .int (iI a), .int (iI (what : Int))] G (vi fun v g => (∃ e : Nat → Int, (∀ j, j < 6 → e j = vThere (rv G r) (vAll (rv G r)) (a + j)) ∧ (if what = 0 then q_cnt e 36 else q_fst e 36) = v) ∧ EI G g) := by
  refine MP.of [some (.ref 64), some (.ref r), some (.int (iI a)), some (.int (iI (what : Int))), none, none, none, none] (plainFor_of_name pn_X1) (Nat.le_of_ble_eq_true rfl) rfl ?_
  refine k_iconst dX1_restingPairs_0 ?_
  refine k_istore (L' := [_, _, _, _, _, _, _, _]) dX1_restingPairs_1 (Nat.le_of_ble_eq_true rfl) rfl ?_
  exact lp_rest1 hr hrl hV ha hw 0 (by omega) _ _ _ _ hI (fun j hj => absurd hj (by omega))
