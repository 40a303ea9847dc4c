/-! ===== a road's view ===== -/
abbrev rv (G : Mem) (r : Nat) : Mem := fun a b => G (r + a) b
theorem q_hi_pos {k h b t : Int} (e : t < b) : q_hi k h b t = q_hgh k h t := if_pos e
theorem q_hi_neg {k h b t : Int} (e : ¬ t < b) : q_hi k h b t = 0 := if_neg e
def vP (V : Mem) (t : Int) (i : Nat) : Int := q_pos (V 1 i) (V 3 i) (V 4 i) t
def vH (V : Mem) (t : Int) (i : Nat) : Int := q_hi (V 1 i) (V 2 i) (V 5 i) t
def Vok (V : Mem) : Prop := (0 ≤ V 0 0 ∧ V 0 0 ≤ 47) ∧ (0 ≤ V 0 1 ∧ V 0 1 ≤ 2) ∧ (0 ≤ V 0 2 ∧ V 0 2 ≤ 6) ∧ ∀ i : Nat, (0 ≤ V 1 i ∧ V 1 i ≤ 5) ∧ (0 ≤ V 2 i ∧ V 2 i ≤ 9) ∧ (0 ≤ V 3 i ∧ V 3 i ≤ 47) ∧ (0 ≤ V 4 i ∧ V 4 i ≤ 3) ∧ (0 ≤ V 5 i ∧ V 5 i ≤ 60) ∧ ((i : Int) < V 0 2 → 1 ≤ V 2 i)
theorem vP_b {V : Mem} (h : Vok V) {t : Int} (ht : 0 ≤ t ∧ t ≤ 60) (i : Nat) : 0 ≤ vP V t i ∧ vP V t i ≤ 47 := q_pos_b (h.2.2.2 i).2.2.1 (h.2.2.2 i).2.2.2.1 ht
theorem vH_b {V : Mem} (h : Vok V) {t : Int} (ht : 0 ≤ t ∧ t ≤ 60) (i : Nat) : 0 ≤ vH V t i ∧ vH V t i ≤ 9 := q_hi_b (h.2.2.2 i).2.1 ht
theorem vok {V : Mem} (h : Vok V) {t : Int} (ht : 0 ≤ t ∧ t ≤ 60) : q_ok (vP V t) (vH V t) := fun j => by
  have a := vP_b h ht j
  have b := vH_b h ht j
  omega
/-- the set of all children -/
def vAll (V : Mem) : Nat := 2 ^ (V 0 2).toNat - 1
theorem vAll_lt {V : Mem} (h : Vok V) : vAll V < 64 := by
  have h1 := h.2.2.1
  have h2 : 2 ^ (V 0 2).toNat ≤ 2 ^ 6 := Nat.pow_le_pow_right (by decide) (by omega)
  have h3 : 0 < 2 ^ (V 0 2).toNat := Nat.two_pow_pos _
  unfold vAll
  omega
/-- Limits' rows of the minute t, the first i children of the road r -/
def SeeI (G : Mem) (r l : Nat) (t : Int) (i : Nat) (G1 : Mem) : Prop := (∀ a b, a ≠ l + 7 → a ≠ l + 8 → G1 a b = G a b) ∧ (∀ j, j < i → G1 (l + 7) j = vP (rv G r) t j ∧ G1 (l + 8) j = vH (rv G r) t j) ∧ q_ok (G1 (l + 7)) (G1 (l + 8))
theorem SeeI.step {G G1 : Mem} {r l i : Nat} {t v1 v2 : Int} (hV : Vok (rv G r)) (ht : 0 ≤ t ∧ t ≤ 60) (h : SeeI G r l t i G1) (h1 : v1 = vP (rv G r) t i) (h2 : v2 = vH (rv G r) t i) : SeeI G r l t (i + 1) (ug (ug G1 (l + 7) i v1) (l + 8) i v2) := by
  have b1 := vP_b hV ht i
  have b2 := vH_b hV ht i
  refine ⟨fun a b ha hb => ?_, fun j hj => ?_, fun j => ?_⟩
  · rw [ug_nc hb, ug_nc ha, h.1 a b ha hb]
  · by_cases e : j = i
    · subst e
      exact ⟨by rw [ug_nc (by omega), ug_at, h1], by rw [ug_at, h2]⟩
    · have := h.2.1 j (by omega)
      exact ⟨by rw [ug_nc (by omega), ug_np e, this.1], by rw [ug_np e, ug_nc (by omega), this.2]⟩
  · have := h.2.2 j
    by_cases e : j = i
    · subst e
      rw [ug_nc (show l + 7 ≠ l + 8 by omega), ug_at, ug_at, h1, h2]
      omega
    · rw [ug_nc (show l + 7 ≠ l + 8 by omega), ug_np e, ug_np e, ug_nc (show l + 8 ≠ l + 7 by omega)]
      exact this
def q_ob (P H : Nat → Int) (a b : Int) : Nat → Nat
  | 0 => 0
  | i + 1 => if 0 < H i ∧ a ≤ P i ∧ P i ≤ b then q_ob P H a b i ||| 2 ^ i else q_ob P H a b i
theorem q_ob_lt {P H : Nat → Int} {a b : Int} : ∀ i, i ≤ 6 → q_ob P H a b i < 64
  | 0, _ => by unfold q_ob; omega
  | i + 1, hi => by
    have h := q_ob_lt (P := P) (H := H) (a := a) (b := b) i (by omega)
    have h2 : 2 ^ i < 2 ^ 6 := Nat.pow_lt_pow_right (by decide) (by omega)
    unfold q_ob
    split
    · exact Nat.or_lt_two_pow (n := 6) h h2
    · exact h
theorem m_everyChild {G : Mem} {r : Nat} (hr : Rd r) (hn : 0 ≤ G r 2 ∧ G r 2 ≤ 6) : MP M_X6_everyChild [.ref r] G (vx (((2 ^ (G r 2).toNat - 1 : Nat) : Int)) G) := by
  refine MP.of [some (.ref r)] (plainFor_of_name pn_X6) (Nat.le_of_ble_eq_true rfl) rfl ?_
  refine k_iconst dX6_everyChild_0 ?_
  refine k_aload_n dX6_everyChild_1 rfl ?_
  refine k_getI dX6_everyChild_2 f_X6_56 (Rd.l0 hr) (Rd.o hr) (fun _ => rfl) ?_
  refine k_ishl (G r 2).toNat dX6_everyChild_5 (by omega) (by omega) ?_
  refine k_iconst dX6_everyChild_6 ?_
  refine k_isub dX6_everyChild_7 ?_
  exact k_iret dX6_everyChild_8 rfl ⟨_, rfl, by have := Nat.two_pow_pos (G r 2).toNat; omega, rfl⟩
theorem m_nearestBehind {G : Mem} {l r : Nat} (hl : Lm l) (hr : Rd r) (hb : q_ok (G (l + 7)) (G (l + 8))) (hsg : 0 ≤ G r 0 ∧ G r 0 ≤ 47) {set : Nat} (hset : set < 64) {x : Int} (hx : 0 ≤ x ∧ x ≤ 47) (hn : 0 ≤ G r 2 ∧ G r 2 ≤ 6) {rk : Int} (hrk : -10 ≤ rk ∧ rk ≤ 2000000) : MP M_X4_nearestBehind [.ref l, .ref r, .int (iI (set : Int)), .int (iI x), .int (iI rk)] G (vx (q_nb (G r 0) (G (l + 7)) (G (l + 8)) set x rk (G r 2).toNat) G) := by
  refine MP.of [some (.ref l), some (.ref r), some (.int (iI (set : Int))), some (.int (iI x)), some (.int (iI rk)), none, none, none] (plainFor_of_name pn_X4) (Nat.le_of_ble_eq_true rfl) rfl ?_
  refine k_ldc 1048576 dX4_nearestBehind_0 w_596 ?_
  refine k_istore (L' := [_, _, _, _, _, _, _, _]) dX4_nearestBehind_2 (Nat.le_of_ble_eq_true rfl) rfl ?_
  refine k_iconst dX4_nearestBehind_4 ?_
  refine k_istore (L' := [_, _, _, _, _, _, _, _]) dX4_nearestBehind_5 (Nat.le_of_ble_eq_true rfl) rfl ?_
  exact lp_nearestBehind hl hr hb hsg hset hx hn hrk 0 (by omega) _
theorem lp_lowestIn {G : Mem} {l r : Nat} (hl : Lm l) (hr : Rd r) (hb : q_ok (G (l + 7)) (G (l + 8))) (hsg : 0 ≤ G r 0 ∧ G r 0 ≤ 47) {set : Nat} (hset : set < 64) {x : Int} (hx : 0 ≤ x ∧ x ≤ 47) (hn : 0 ≤ G r 2 ∧ G r 2 ≤ 6)  : ∀ i : Nat, i ≤ (G r 2).toNat → RP M_X4_lowestIn 7 [some (.ref l), some (.ref r), some (.int (iI (set : Int))), some (.int (iI x)), some (.int (iI (q_low (G r 0) (G (l + 7)) (G (l + 8)) set x i))), some (.int (iI (i : Int)))] [] G (vx (q_low (G r 0) (G (l + 7)) (G (l + 8)) set x (G r 2).toNat) G) := by
  refine cnt ?_ (fun i hi ih => ?_)
  · skip
    refine k_iload dX4_lowestIn_7 rfl ?_
    refine k_aload_n dX4_lowestIn_9 rfl ?_
    refine k_getI dX4_lowestIn_10 f_X4_55 (Rd.l0 hr) (Rd.o hr) (fun _ => rfl) ?_
    refine k_icmp_ge 48 dX4_lowestIn_13 (by decide) ⟨by omega, by omega⟩ ⟨by omega, by omega⟩ (fun h13 => ?_) (fun h13 => absurd h13 (by omega))
    refine k_iload dX4_lowestIn_48 rfl ?_
    exact k_iret dX4_lowestIn_50 rfl ⟨_, rfl, rfl, rfl⟩
  · skip
    have b := hb i
    have b3 := q_low_b hb (sg := G r 0) (set := set) (x := x) i
    have e := q_low.eq_2 (G r 0) (G (l + 7)) (G (l + 8)) set x i
    refine k_iload dX4_lowestIn_7 rfl ?_
    refine k_aload_n dX4_lowestIn_9 rfl ?_
    refine k_getI dX4_lowestIn_10 f_X4_55 (Rd.l0 hr) (Rd.o hr) (fun _ => rfl) ?_
    refine k_icmp_ge 48 dX4_lowestIn_13 (by decide) ⟨by omega, by omega⟩ ⟨by omega, by omega⟩ (fun h13 => absurd h13 (by omega)) (fun h13 => ?_)
    refine k_aload_n dX4_lowestIn_16 rfl ?_
    refine k_aload_n dX4_lowestIn_17 rfl ?_
    refine k_iload_n dX4_lowestIn_18 rfl ?_
    refine k_iload_n dX4_lowestIn_19 rfl ?_
    refine k_iload dX4_lowestIn_20 rfl ?_
    refine k_callVi [.ref _, .int (iI _), .int (iI _), .int (iI _)] dX4_lowestIn_22 s_X4_lowestIn_108 rfl (m_isSeen hl hr hb hsg hset hx (by omega)) rfl (Lm.l0 hl) (Lm.o hl) ⟨_, rfl, rfl⟩ (Nat.le_of_ble_eq_true rfl) ?_
    rintro _ _ ⟨rfl, rfl⟩
    refine k_ifb_eq 42 dX4_lowestIn_25 (by decide) (fun h25 => ?_) (fun h25 => ?_)
    · skip
      refine k_iinc (L' := [_, _, _, _, _, _]) dX4_lowestIn_42 rfl (Nat.le_of_ble_eq_true rfl) rfl ?_
      refine k_goto 7 dX4_lowestIn_45 (by decide) ?_
      first | (rw [if_pos h25] at e; rw [← e]; exact ih) | (rw [if_neg h25] at e; rw [← e]; exact ih)
    · skip
      refine k_iload dX4_lowestIn_28 rfl ?_
      refine k_aload_n dX4_lowestIn_30 rfl ?_
      refine k_getR dX4_lowestIn_31 f_X4_52 (Lm.l0 hl) (Lm.o hl) (fun _ => rfl) ?_
      refine k_iload dX4_lowestIn_34 rfl ?_
      refine k_iald i dX4_lowestIn_36 (Lm.l8 hl) (Lm.a8 hl) (by decide) (by omega) (by omega) ?_
      refine k_callSi [.int (iI _), .int (iI _)] dX4_lowestIn_37 s_X4_lowestIn_117 rfl (m_min ⟨by omega, by omega⟩ ⟨by omega, by omega⟩) rfl (Nat.le_of_ble_eq_true rfl) ?_
      rintro _ _ ⟨rfl, rfl⟩
      refine k_istore (L' := [_, _, _, _, _, _]) dX4_lowestIn_40 (Nat.le_of_ble_eq_true rfl) rfl ?_
      refine k_iinc (L' := [_, _, _, _, _, _]) dX4_lowestIn_42 rfl (Nat.le_of_ble_eq_true rfl) rfl ?_
      refine k_goto 7 dX4_lowestIn_45 (by decide) ?_
      first | (rw [if_pos h25] at e; rw [← e]; exact ih) | (rw [if_neg h25] at e; rw [← e]; exact ih)
theorem m_lowestIn {G : Mem} {l r : Nat} (hl : Lm l) (hr : Rd r) (hb : q_ok (G (l + 7)) (G (l + 8))) (hsg : 0 ≤ G r 0 ∧ G r 0 ≤ 47) {set : Nat} (hset : set < 64) {x : Int} (hx : 0 ≤ x ∧ x ≤ 47) (hn : 0 ≤ G r 2 ∧ G r 2 ≤ 6)  : MP M_X4_lowestIn [.ref l, .ref r, .int (iI (set : Int)), .int (iI x)] G (vx (q_low (G r 0) (G (l + 7)) (G (l + 8)) set x (G r 2).toNat) G) := by
  refine MP.of [some (.ref l), some (.ref r), some (.int (iI (set : Int))), some (.int (iI x)), none, none] (plainFor_of_name pn_X4) (Nat.le_of_ble_eq_true rfl) rfl ?_
  refine k_bipush dX4_lowestIn_0 (by decide) ?_
  refine k_istore (L' := [_, _, _, _, _, _]) dX4_lowestIn_2 (Nat.le_of_ble_eq_true rfl) rfl ?_
  refine k_iconst dX4_lowestIn_4 ?_
  refine k_istore (L' := [_, _, _, _, _, _]) dX4_lowestIn_5 (Nat.le_of_ble_eq_true rfl) rfl ?_
  exact lp_lowestIn hl hr hb hsg hset hx hn 0 (by omega)
theorem m_limitIn0 {G : Mem} {l r : Nat} (hl : Lm l) (hr : Rd r) (hb : q_ok (G (l + 7)) (G (l + 8))) (hsg : 0 ≤ G r 0 ∧ G r 0 ≤ 47) {set : Nat} (hset : set < 64) {x : Int} (hx : 0 ≤ x ∧ x ≤ 47) (hn : 0 ≤ G r 2 ∧ G r 2 ≤ 6) (hlw : 0 ≤ G r 1 ∧ G r 1 ≤ 2) : MP M_X4_limitIn [.ref l, .ref r, .int (iI (set : Int)), .int (iI x)] G (vx (q_lim (G r 1) (G r 0) (G r 2).toNat (G (l + 7)) (G (l + 8)) set x) G) := by
  refine MP.of [some (.ref l), some (.ref r), some (.int (iI (set : Int))), some (.int (iI x)), none, none] (plainFor_of_name pn_X4) (Nat.le_of_ble_eq_true rfl) rfl ?_
  refine k_aload_n dX4_limitIn_0 rfl ?_
  refine k_getI dX4_limitIn_1 f_X4_88 (Rd.l0 hr) (Rd.o hr) (fun _ => rfl) ?_
  refine k_iconst dX4_limitIn_4 ?_
  refine k_icmp_ne 16 dX4_limitIn_5 (by decide) ⟨by omega, by omega⟩ ⟨by decide, by decide⟩ (fun h5 => ?_) (fun h5 => ?_)
  · skip
    refine k_aload_n dX4_limitIn_16 rfl ?_
    refine k_aload_n dX4_limitIn_17 rfl ?_
    refine k_iload_n dX4_limitIn_18 rfl ?_
    refine k_iload_n dX4_limitIn_19 rfl ?_
    refine k_iconst dX4_limitIn_20 ?_
    refine k_callVi [.ref _, .int (iI _), .int (iI _), .int (iI _)] dX4_limitIn_21 s_X4_limitIn_95 rfl (m_nearestBehind hl hr hb hsg hset hx hn (by omega)) rfl (Lm.l0 hl) (Lm.o hl) ⟨_, rfl, rfl⟩ (Nat.le_of_ble_eq_true rfl) ?_
    rintro _ _ ⟨rfl, rfl⟩
    have bb := q_nb_b hb hx (sg := G r 0) (set := set) (rk := -1) (G r 2).toNat (by omega)
    have bc := q_nb_b hb hx (sg := G r 0) (set := set) (rk := q_nb (G r 0) (G (l + 7)) (G (l + 8)) set x (-1) (G r 2).toNat) (G r 2).toNat (by omega)
    refine k_istore (L' := [_, _, _, _, _, _]) dX4_limitIn_24 (Nat.le_of_ble_eq_true rfl) rfl ?_
    refine k_iload dX4_limitIn_26 rfl ?_
    refine k_ldc 1048576 dX4_limitIn_28 w_596 ?_
    refine k_icmp_ne 36 dX4_limitIn_30 (by decide) ⟨by omega, by omega⟩ ⟨by decide, by decide⟩ (fun h30 => ?_) (fun h30 => ?_)
    · skip
      refine k_aload_n dX4_limitIn_36 rfl ?_
      refine k_getI dX4_limitIn_37 f_X4_88 (Rd.l0 hr) (Rd.o hr) (fun _ => rfl) ?_
      refine k_if_ne 49 dX4_limitIn_40 (by decide) ⟨by omega, by omega⟩ (fun h40 => ?_) (fun h40 => ?_)
      · skip
        refine k_aload_n dX4_limitIn_49 rfl ?_
        refine k_aload_n dX4_limitIn_50 rfl ?_
        refine k_iload_n dX4_limitIn_51 rfl ?_
        refine k_iload_n dX4_limitIn_52 rfl ?_
        refine k_iload dX4_limitIn_53 rfl ?_
        refine k_callVi [.ref _, .int (iI _), .int (iI _), .int (iI _)] dX4_limitIn_55 s_X4_limitIn_95 rfl (m_nearestBehind hl hr hb hsg hset hx hn (by omega)) rfl (Lm.l0 hl) (Lm.o hl) ⟨_, rfl, rfl⟩ (Nat.le_of_ble_eq_true rfl) ?_
        rintro _ _ ⟨rfl, rfl⟩
        have bb := q_nb_b hb hx (sg := G r 0) (set := set) (rk := -1) (G r 2).toNat (by omega)
        have bc := q_nb_b hb hx (sg := G r 0) (set := set) (rk := q_nb (G r 0) (G (l + 7)) (G (l + 8)) set x (-1) (G r 2).toNat) (G r 2).toNat (by omega)
        refine k_istore (L' := [_, _, _, _, _, _]) dX4_limitIn_58 (Nat.le_of_ble_eq_true rfl) rfl ?_
        refine k_iload dX4_limitIn_60 rfl ?_
        refine k_ldc 1048576 dX4_limitIn_62 w_596 ?_
        refine k_icmp_ne 73 dX4_limitIn_64 (by decide) ⟨by omega, by omega⟩ ⟨by decide, by decide⟩ (fun h64 => ?_) (fun h64 => ?_)
        · skip
          refine k_iload dX4_limitIn_73 rfl ?_
          refine k_callSi [.int (iI _)] dX4_limitIn_75 s_X4_limitIn_100 rfl (m_highByRank (by omega)) rfl (Nat.le_of_ble_eq_true rfl) ?_
          rintro _ _ ⟨rfl, rfl⟩
          refine k_iload dX4_limitIn_78 rfl ?_
          refine k_callSi [.int (iI _)] dX4_limitIn_80 s_X4_limitIn_100 rfl (m_highByRank (by omega)) rfl (Nat.le_of_ble_eq_true rfl) ?_
          rintro _ _ ⟨rfl, rfl⟩
          refine k_iadd dX4_limitIn_83 ?_
          refine k_iconst dX4_limitIn_84 ?_
          refine k_idiv dX4_limitIn_85 (by omega) (by omega) ?_
          exact k_iret dX4_limitIn_86 rfl ⟨_, rfl, by unfold q_lim; first | (rw [if_pos h5]; done) | (rw [if_neg h5, if_pos h30]; done) | (rw [if_neg h5, if_neg h30, if_pos h40]; done) | (rw [if_neg h5, if_neg h30, if_neg h40, if_pos h64]; done) | (rw [if_neg h5, if_neg h30, if_neg h40, if_neg h64]; done), rfl⟩
        · skip
          refine k_iload dX4_limitIn_67 rfl ?_
          refine k_callSi [.int (iI _)] dX4_limitIn_69 s_X4_limitIn_100 rfl (m_highByRank (by omega)) rfl (Nat.le_of_ble_eq_true rfl) ?_
          rintro _ _ ⟨rfl, rfl⟩
          exact k_iret dX4_limitIn_72 rfl ⟨_, rfl, by unfold q_lim; first | (rw [if_pos h5]; done) | (rw [if_neg h5, if_pos h30]; done) | (rw [if_neg h5, if_neg h30, if_pos h40]; done) | (rw [if_neg h5, if_neg h30, if_neg h40, if_pos h64]; done) | (rw [if_neg h5, if_neg h30, if_neg h40, if_neg h64]; done), rfl⟩
      · skip
        refine k_iload dX4_limitIn_43 rfl ?_
        refine k_callSi [.int (iI _)] dX4_limitIn_45 s_X4_limitIn_100 rfl (m_highByRank (by omega)) rfl (Nat.le_of_ble_eq_true rfl) ?_
        rintro _ _ ⟨rfl, rfl⟩
        exact k_iret dX4_limitIn_48 rfl ⟨_, rfl, by unfold q_lim; first | (rw [if_pos h5]; done) | (rw [if_neg h5, if_pos h30]; done) | (rw [if_neg h5, if_neg h30, if_pos h40]; done) | (rw [if_neg h5, if_neg h30, if_neg h40, if_pos h64]; done) | (rw [if_neg h5, if_neg h30, if_neg h40, if_neg h64]; done), rfl⟩
    · skip
      refine k_bipush dX4_limitIn_33 (by decide) ?_
      exact k_iret dX4_limitIn_35 rfl ⟨_, rfl, by unfold q_lim; first | (rw [if_pos h5]; done) | (rw [if_neg h5, if_pos h30]; done) | (rw [if_neg h5, if_neg h30, if_pos h40]; done) | (rw [if_neg h5, if_neg h30, if_neg h40, if_pos h64]; done) | (rw [if_neg h5, if_neg h30, if_neg h40, if_neg h64]; done), rfl⟩
  · skip
    refine k_aload_n dX4_limitIn_8 rfl ?_
    refine k_aload_n dX4_limitIn_9 rfl ?_
    refine k_iload_n dX4_limitIn_10 rfl ?_
    refine k_iload_n dX4_limitIn_11 rfl ?_
    refine k_callVi [.ref _, .int (iI _), .int (iI _)] dX4_limitIn_12 s_X4_limitIn_91 rfl (m_lowestIn hl hr hb hsg hset hx hn) rfl (Lm.l0 hl) (Lm.o hl) ⟨_, rfl, rfl⟩ (Nat.le_of_ble_eq_true rfl) ?_
    rintro _ _ ⟨rfl, rfl⟩
    exact k_iret dX4_limitIn_15 rfl ⟨_, rfl, by unfold q_lim; first | (rw [if_pos h5]; done) | (rw [if_neg h5, if_pos h30]; done) | (rw [if_neg h5, if_neg h30, if_pos h40]; done) | (rw [if_neg h5, if_neg h30, if_neg h40, if_pos h64]; done) | (rw [if_neg h5, if_neg h30, if_neg h40, if_neg h64]; done), rfl⟩
theorem m_nearestChild {G : Mem} {l r : Nat} (hl : Lm l) (hr : Rd r) (hb : q_ok (G (l + 7)) (G (l + 8))) (hsg : 0 ≤ G r 0 ∧ G r 0 ≤ 47) {x : Int} (hx : 0 ≤ x ∧ x ≤ 47) (hn : 0 ≤ G r 2 ∧ G r 2 ≤ 6)  : MP M_X4_nearestChild [.ref l, .ref r, .int (iI x)] G (vx (if q_nb (G r 0) (G (l + 7)) (G (l + 8)) (2 ^ (G r 2).toNat - 1) x (-1) (G r 2).toNat = 1048576 then -1 else q_nb (G r 0) (G (l + 7)) (G (l + 8)) (2 ^ (G r 2).toNat - 1) x (-1) (G r 2).toNat % 8) G) := by
  have hset : 2 ^ (G r 2).toNat - 1 < 64 := by
    have h2 : 2 ^ (G r 2).toNat ≤ 2 ^ 6 := Nat.pow_le_pow_right (by decide) (by omega)
    omega
  refine MP.of [some (.ref l), some (.ref r), some (.int (iI x)), none] (plainFor_of_name pn_X4) (Nat.le_of_ble_eq_true rfl) rfl ?_
  refine k_aload_n dX4_nearestChild_0 rfl ?_
  refine k_aload_n dX4_nearestChild_1 rfl ?_
  refine k_aload_n dX4_nearestChild_2 rfl ?_
  refine k_callVi [] dX4_nearestChild_3 s_X4_nearestChild_104 rfl (m_everyChild hr hn) rfl (Rd.l0 hr) (Rd.o hr) ⟨_, rfl, rfl⟩ (Nat.le_of_ble_eq_true rfl) ?_
  rintro _ _ ⟨rfl, rfl⟩
  refine k_iload_n dX4_nearestChild_6 rfl ?_
  refine k_iconst dX4_nearestChild_7 ?_
  refine k_callVi [.ref _, .int (iI _), .int (iI _), .int (iI _)] dX4_nearestChild_8 s_X4_nearestChild_95 rfl (m_nearestBehind (set := 2 ^ (G r 2).toNat - 1) hl hr hb hsg hset hx hn (by omega)) rfl (Lm.l0 hl) (Lm.o hl) ⟨_, rfl, rfl⟩ (Nat.le_of_ble_eq_true rfl) ?_
  rintro _ _ ⟨rfl, rfl⟩
  have bb := q_nb_b hb hx (sg := G r 0) (set := 2 ^ (G r 2).toNat - 1) (rk := -1) (G r 2).toNat (by omega)
  refine k_istore_n (L' := [_, _, _, _]) dX4_nearestChild_11 (Nat.le_of_ble_eq_true rfl) rfl ?_
  refine k_iload_n dX4_nearestChild_12 rfl ?_
  refine k_ldc 1048576 dX4_nearestChild_13 w_596 ?_
  refine k_icmp_ne 22 dX4_nearestChild_15 (by decide) ⟨by omega, by omega⟩ ⟨by decide, by decide⟩ (fun h15 => ?_) (fun h15 => ?_)
  · skip
    refine k_iload_n dX4_nearestChild_22 rfl ?_
    refine k_bipush dX4_nearestChild_23 (by decide) ?_
    refine k_irem dX4_nearestChild_25 (by omega) (by omega) ?_
    exact k_iret dX4_nearestChild_26 rfl ⟨_, rfl, by first | exact if_pos h15 | exact if_neg h15, rfl⟩
  · skip
    refine k_iconst dX4_nearestChild_18 ?_
    refine k_goto 26 dX4_nearestChild_19 (by decide) ?_
    exact k_iret dX4_nearestChild_26 rfl ⟨_, rfl, by first | exact if_pos h15 | exact if_neg h15, rfl⟩
theorem lp_outBetween {G : Mem} {l r : Nat} (hl : Lm l) (hr : Rd r) (hb : q_ok (G (l + 7)) (G (l + 8))) (hn : 0 ≤ G r 2 ∧ G r 2 ≤ 6) {a b : Int} (ha : 0 ≤ a ∧ a ≤ 47) (hbb : 0 ≤ b ∧ b ≤ 47) : ∀ i : Nat, i ≤ (G r 2).toNat → RP M_X4_outBetween 6 [some (.ref l), some (.ref r), some (.int (iI a)), some (.int (iI b)), some (.int (iI ((q_ob (G (l + 7)) (G (l + 8)) a b i : Nat) : Int))), some (.int (iI (i : Int)))] [] G (vx ((q_ob (G (l + 7)) (G (l + 8)) a b (G r 2).toNat : Nat) : Int) G) := by
  refine cnt ?_ (fun i hi ih => ?_)
  · skip
    refine k_iload dX4_outBetween_6 rfl ?_
    refine k_aload_n dX4_outBetween_8 rfl ?_
    refine k_getI dX4_outBetween_9 f_X4_55 (Rd.l0 hr) (Rd.o hr) (fun _ => rfl) ?_
    refine k_icmp_ge 62 dX4_outBetween_12 (by decide) ⟨by omega, by omega⟩ ⟨by omega, by omega⟩ (fun h12 => ?_) (fun h12 => absurd h12 (by omega))
    refine k_iload dX4_outBetween_62 rfl ?_
    exact k_iret dX4_outBetween_64 rfl ⟨_, rfl, rfl, rfl⟩
  · skip
    have b0 := hb i
    have e := q_ob.eq_2 (G (l + 7)) (G (l + 8)) a b i
    refine k_iload dX4_outBetween_6 rfl ?_
    refine k_aload_n dX4_outBetween_8 rfl ?_
    refine k_getI dX4_outBetween_9 f_X4_55 (Rd.l0 hr) (Rd.o hr) (fun _ => rfl) ?_
    refine k_icmp_ge 62 dX4_outBetween_12 (by decide) ⟨by omega, by omega⟩ ⟨by omega, by omega⟩ (fun h12 => absurd h12 (by omega)) (fun h12 => ?_)
    refine k_aload_n dX4_outBetween_15 rfl ?_
    refine k_getR dX4_outBetween_16 f_X4_52 (Lm.l0 hl) (Lm.o hl) (fun _ => rfl) ?_
    refine k_iload dX4_outBetween_19 rfl ?_
    refine k_iald i dX4_outBetween_21 (Lm.l8 hl) (Lm.a8 hl) (by decide) (by omega) (by omega) ?_
    refine k_if_le 56 dX4_outBetween_22 (by decide) ⟨by omega, by omega⟩ (fun h22 => ?_) (fun h22 => ?_)
    · skip
      refine k_iinc (L' := [_, _, _, _, _, _]) dX4_outBetween_56 rfl (Nat.le_of_ble_eq_true rfl) rfl ?_
      refine k_goto 6 dX4_outBetween_59 (by decide) ?_
      first | (rw [if_pos ⟨by omega, by omega, by omega⟩] at e; rw [← e]; exact ih) | (rw [if_neg (fun q => by omega)] at e; rw [← e]; exact ih)
    · skip
      refine k_aload_n dX4_outBetween_25 rfl ?_
      refine k_getR dX4_outBetween_26 f_X4_48 (Lm.l0 hl) (Lm.o hl) (fun _ => rfl) ?_
      refine k_iload dX4_outBetween_29 rfl ?_
      refine k_iald i dX4_outBetween_31 (Lm.l7 hl) (Lm.a7 hl) (by decide) (by omega) (by omega) ?_
      refine k_iload_n dX4_outBetween_32 rfl ?_
      refine k_icmp_lt 56 dX4_outBetween_33 (by decide) ⟨by omega, by omega⟩ ⟨by omega, by omega⟩ (fun h33 => ?_) (fun h33 => ?_)
      · skip
        refine k_iinc (L' := [_, _, _, _, _, _]) dX4_outBetween_56 rfl (Nat.le_of_ble_eq_true rfl) rfl ?_
        refine k_goto 6 dX4_outBetween_59 (by decide) ?_
        first | (rw [if_pos ⟨by omega, by omega, by omega⟩] at e; rw [← e]; exact ih) | (rw [if_neg (fun q => by omega)] at e; rw [← e]; exact ih)
      · skip
        refine k_aload_n dX4_outBetween_36 rfl ?_
        refine k_getR dX4_outBetween_37 f_X4_48 (Lm.l0 hl) (Lm.o hl) (fun _ => rfl) ?_
        refine k_iload dX4_outBetween_40 rfl ?_
        refine k_iald i dX4_outBetween_42 (Lm.l7 hl) (Lm.a7 hl) (by decide) (by omega) (by omega) ?_
        refine k_iload_n dX4_outBetween_43 rfl ?_
        refine k_icmp_gt 56 dX4_outBetween_44 (by decide) ⟨by omega, by omega⟩ ⟨by omega, by omega⟩ (fun h44 => ?_) (fun h44 => ?_)
        · skip
          refine k_iinc (L' := [_, _, _, _, _, _]) dX4_outBetween_56 rfl (Nat.le_of_ble_eq_true rfl) rfl ?_
          refine k_goto 6 dX4_outBetween_59 (by decide) ?_
          first | (rw [if_pos ⟨by omega, by omega, by omega⟩] at e; rw [← e]; exact ih) | (rw [if_neg (fun q => by omega)] at e; rw [← e]; exact ih)
        · skip
          refine k_iload dX4_outBetween_47 rfl ?_
          refine k_iconst dX4_outBetween_49 ?_
          refine k_iload dX4_outBetween_50 rfl ?_
          refine k_ishl i dX4_outBetween_52 rfl (by omega) ?_
          refine k_ior _ _ dX4_outBetween_53 rfl rfl ?_
          refine k_istore (L' := [_, _, _, _, _, _]) dX4_outBetween_54 (Nat.le_of_ble_eq_true rfl) rfl ?_
          refine k_iinc (L' := [_, _, _, _, _, _]) dX4_outBetween_56 rfl (Nat.le_of_ble_eq_true rfl) rfl ?_
          refine k_goto 6 dX4_outBetween_59 (by decide) ?_
          first | (rw [if_pos ⟨by omega, by omega, by omega⟩] at e; rw [← e]; exact ih) | (rw [if_neg (fun q => by omega)] at e; rw [← e]; exact ih)
theorem m_outBetween {G : Mem} {l r : Nat} (hl : Lm l) (hr : Rd r) (hb : q_ok (G (l + 7)) (G (l + 8))) (hn : 0 ≤ G r 2 ∧ G r 2 ≤ 6) {a b : Int} (ha : 0 ≤ a ∧ a ≤ 47) (hbb : 0 ≤ b ∧ b ≤ 47) : MP M_X4_outBetween [.ref l, .ref r, .int (iI a), .int (iI b)] G (vx ((q_ob (G (l + 7)) (G (l + 8)) a b (G r 2).toNat : Nat) : Int) G) := by
  refine MP.of [some (.ref l), some (.ref r), some (.int (iI a)), some (.int (iI b)), none, none] (plainFor_of_name pn_X4) (Nat.le_of_ble_eq_true rfl) rfl ?_
  refine k_iconst dX4_outBetween_0 ?_
  refine k_istore (L' := [_, _, _, _, _, _]) dX4_outBetween_1 (Nat.le_of_ble_eq_true rfl) rfl ?_
  refine k_iconst dX4_outBetween_3 ?_
  refine k_istore (L' := [_, _, _, _, _, _]) dX4_outBetween_4 (Nat.le_of_ble_eq_true rfl) rfl ?_
  exact lp_outBetween hl hr hb hn ha hbb 0 (by omega)
theorem m_kindOf0 {G : Mem} {l : Nat} (hl : Lm l) {k : Int} (hk : k = 0) : MP M_X4_kindOf [.ref l, .int (iI k)] G (vr fun a g => l + 1 = a ∧ G = g) := by
  refine (m_kindOf (G := G) hl (k := k) (by omega)).mono ?_
  rintro o g ⟨a, h1, h2, h3⟩
  exact ⟨a, h1, by rw [← h2, hk]; rfl, h3⟩
theorem m_kindOf1 {G : Mem} {l : Nat} (hl : Lm l) {k : Int} (hk : k = 1) : MP M_X4_kindOf [.ref l, .int (iI k)] G (vr fun a g => l + 2 = a ∧ G = g) := by
  refine (m_kindOf (G := G) hl (k := k) (by omega)).mono ?_
  rintro o g ⟨a, h1, h2, h3⟩
  exact ⟨a, h1, by rw [← h2, hk]; rfl, h3⟩
theorem m_kindOf2 {G : Mem} {l : Nat} (hl : Lm l) {k : Int} (hk : k = 2) : MP M_X4_kindOf [.ref l, .int (iI k)] G (vr fun a g => l + 3 = a ∧ G = g) := by
  refine (m_kindOf (G := G) hl (k := k) (by omega)).mono ?_
  rintro o g ⟨a, h1, h2, h3⟩
  exact ⟨a, h1, by rw [← h2, hk]; rfl, h3⟩
theorem m_kindOf3 {G : Mem} {l : Nat} (hl : Lm l) {k : Int} (hk : k = 3) : MP M_X4_kindOf [.ref l, .int (iI k)] G (vr fun a g => l + 4 = a ∧ G = g) := by
  refine (m_kindOf (G := G) hl (k := k) (by omega)).mono ?_
  rintro o g ⟨a, h1, h2, h3⟩
  exact ⟨a, h1, by rw [← h2, hk]; rfl, h3⟩
theorem m_kindOf4 {G : Mem} {l : Nat} (hl : Lm l) {k : Int} (hk : k = 4) : MP M_X4_kindOf [.ref l, .int (iI k)] G (vr fun a g => l + 5 = a ∧ G = g) := by
  refine (m_kindOf (G := G) hl (k := k) (by omega)).mono ?_
  rintro o g ⟨a, h1, h2, h3⟩
  exact ⟨a, h1, by rw [← h2, hk]; rfl, h3⟩
theorem m_kindOf5 {G : Mem} {l : Nat} (hl : Lm l) {k : Int} (hk : k = 5) : MP M_X4_kindOf [.ref l, .int (iI k)] G (vr fun a g => l + 6 = a ∧ G = g) := by
  refine (m_kindOf (G := G) hl (k := k) (by omega)).mono ?_
  rintro o g ⟨a, h1, h2, h3⟩
  exact ⟨a, h1, by rw [← h2, hk]; rfl, h3⟩
theorem lp_see {G : Mem} {l r : Nat} (hl : Lm l) (hr : Rd r) (hrl : r + 12 < l) (hV : Vok (rv G r)) {t : Int} (ht : 0 ≤ t ∧ t < 60)  : ∀ i : Nat, i ≤ (G r 2).toNat → ∀ G1 : Mem, SeeI G r l t i G1 → ∀ j4 : Option Value, RP M_X4_see 2 [some (.ref l), some (.ref r), some (.int (iI t)), some (.int (iI (i : Int))), j4] [] G1 (vv (SeeI G r l t (G r 2).toNat)) := by
  refine cnt (fun G1 hI j4 => ?_) (fun i hi ih G1 hI j4 => ?_)
  · skip
    have hn : 0 ≤ G r 2 ∧ G r 2 ≤ 6 := hV.2.2.1
    have e0 : G1 r 2 = G r 2 := hI.1 r 2 (by omega) (by omega)
    refine k_iload_n dX4_see_2 rfl ?_
    refine k_aload_n dX4_see_3 rfl ?_
    refine k_getI dX4_see_4 f_X4_55 (Rd.l0 hr) (Rd.o hr) (fun _ => rfl) ?_
    refine k_icmp_ge 84 dX4_see_7 (by decide) ⟨by omega, by omega⟩ ⟨by omega, by omega⟩ (fun h7 => ?_) (fun h7 => absurd h7 (by omega))
    exact k_ret dX4_see_84 rfl ⟨rfl, hI⟩
  · skip
    have hn : 0 ≤ G r 2 ∧ G r 2 ≤ 6 := hV.2.2.1
    have e0 : G1 r 2 = G r 2 := hI.1 r 2 (by omega) (by omega)
    have hk6 : (0 ≤ G (r + 1) i ∧ G (r + 1) i ≤ 5) ∧ (0 ≤ G (r + 2) i ∧ G (r + 2) i ≤ 9) ∧ (0 ≤ G (r + 3) i ∧ G (r + 3) i ≤ 47) ∧ (0 ≤ G (r + 4) i ∧ G (r + 4) i ≤ 3) ∧ (0 ≤ G (r + 5) i ∧ G (r + 5) i ≤ 60) ∧ ((i : Int) < G r 2 → 1 ≤ G (r + 2) i) := hV.2.2.2 i
    have e1 : G1 (r + 1) i = G (r + 1) i := hI.1 (r + 1) i (by omega) (by omega)
    have e2 : G1 (r + 2) i = G (r + 2) i := hI.1 (r + 2) i (by omega) (by omega)
    have e3 : G1 (r + 3) i = G (r + 3) i := hI.1 (r + 3) i (by omega) (by omega)
    have e4 : G1 (r + 4) i = G (r + 4) i := hI.1 (r + 4) i (by omega) (by omega)
    have e5 : G1 (r + 5) i = G (r + 5) i := hI.1 (r + 5) i (by omega) (by omega)
    rcases (show G (r + 1) i = 0 ∨ G (r + 1) i = 1 ∨ G (r + 1) i = 2 ∨ G (r + 1) i = 3 ∨ G (r + 1) i = 4 ∨ G (r + 1) i = 5 from by omega) with hk | hk | hk | hk | hk | hk
    · skip
      refine k_iload_n dX4_see_2 rfl ?_
      refine k_aload_n dX4_see_3 rfl ?_
      refine k_getI dX4_see_4 f_X4_55 (Rd.l0 hr) (Rd.o hr) (fun _ => rfl) ?_
      refine k_icmp_ge 84 dX4_see_7 (by decide) ⟨by omega, by omega⟩ ⟨by omega, by omega⟩ (fun h7 => absurd h7 (by omega)) (fun h7 => ?_)
      refine k_aload_n dX4_see_10 rfl ?_
      refine k_aload_n dX4_see_11 rfl ?_
      refine k_getR dX4_see_12 f_X4_61 (Rd.l0 hr) (Rd.o hr) (fun _ => rfl) ?_
      refine k_iload_n dX4_see_15 rfl ?_
      refine k_iald i dX4_see_16 (Rd.l1 hr) (Rd.a1 hr) (by decide) (by omega) (by omega) ?_
      refine k_callVa [.int (iI _)] dX4_see_17 s_X4_see_64 rfl (m_kindOf0 hl (by omega)) rfl (Lm.l0 hl) (Lm.o hl) ⟨_, rfl, rfl⟩ (Nat.le_of_ble_eq_true rfl) ?_
      rintro _ _ ⟨rfl, rfl⟩
      refine k_astore (L' := [_, _, _, _, _]) dX4_see_20 (Nat.le_of_ble_eq_true rfl) rfl ?_
      refine k_aload_n dX4_see_22 rfl ?_
      refine k_getR dX4_see_23 f_X4_48 (Lm.l0 hl) (Lm.o hl) (fun _ => rfl) ?_
      refine k_iload_n dX4_see_26 rfl ?_
      refine k_aload dX4_see_27 rfl ?_
      refine k_aload_n dX4_see_29 rfl ?_
      refine k_getR dX4_see_30 f_X4_68 (Rd.l0 hr) (Rd.o hr) (fun _ => rfl) ?_
      refine k_iload_n dX4_see_33 rfl ?_
      refine k_iald i dX4_see_34 (Rd.l3 hr) (Rd.a3 hr) (by decide) (by omega) (by omega) ?_
      refine k_aload_n dX4_see_35 rfl ?_
      refine k_getR dX4_see_36 f_X4_71 (Rd.l0 hr) (Rd.o hr) (fun _ => rfl) ?_
      refine k_iload_n dX4_see_39 rfl ?_
      refine k_iald i dX4_see_40 (Rd.l4 hr) (Rd.a4 hr) (by decide) (by omega) (by omega) ?_
      refine k_iload_n dX4_see_41 rfl ?_
      refine k_callUi [.int (iI _), .int (iI _), .int (iI _)] dX4_see_42 s_X4_see_74_X10 rfl (m_walkerCell (Lm.l1 hl) (Lm.a1 hl) (by omega) (by omega) (by omega)) rfl (Lm.l1 hl) (Lm.a1 hl) ⟨_, rfl, rfl⟩ (Nat.le_of_ble_eq_true rfl) ?_
      rintro _ _ ⟨rfl, rfl⟩
      refine k_iast i dX4_see_45 (Lm.l7 hl) (Lm.a7 hl) (by decide) (by omega) (by omega) ?_
      refine k_aload_n dX4_see_46 rfl ?_
      refine k_getR dX4_see_47 f_X4_52 (Lm.l0 hl) (Lm.o hl) (fun _ => rfl) ?_
      refine k_iload_n dX4_see_50 rfl ?_
      refine k_iload_n dX4_see_51 rfl ?_
      refine k_aload_n dX4_see_52 rfl ?_
      refine k_getR dX4_see_53 f_X4_78 (Rd.l0 hr) (Rd.o hr) (fun _ => rfl) ?_
      refine k_iload_n dX4_see_56 rfl ?_
      refine k_iald i dX4_see_57 (Rd.l5 hr) (Rd.a5 hr) (by decide) (by omega) (by omega) ?_
      simp only [ug_nc (show r + 5 ≠ l + 7 by omega)]
      refine k_icmp_ge 76 dX4_see_58 (by decide) ⟨by omega, by omega⟩ ⟨by omega, by omega⟩ (fun h58 => ?_) (fun h58 => ?_)
      · skip
        refine k_iconst dX4_see_76 ?_
        refine k_iast i dX4_see_77 (Lm.l8 hl) (Lm.a8 hl) (by decide) (by omega) (by omega) ?_
        refine k_iinc (L' := [_, _, _, _, _]) dX4_see_78 rfl (Nat.le_of_ble_eq_true rfl) rfl ?_
        refine k_goto 2 dX4_see_81 (by decide) ?_
        exact ih _ (SeeI.step hV (by omega) hI (by show _ = q_pos (G (r + 1) i) (G (r + 3) i) (G (r + 4) i) t; rw [e3, hk]; (try rw [e4]); rfl) (by show _ = q_hi (G (r + 1) i) (G (r + 2) i) (G (r + 5) i) t; first | (rw [q_hi_pos (by omega), hk]; (try rw [e2]); rfl) | exact (q_hi_neg (by omega)).symm)) _
      · skip
        refine k_aload dX4_see_61 rfl ?_
        refine k_aload_n dX4_see_63 rfl ?_
        refine k_getR dX4_see_64 f_X4_81 (Rd.l0 hr) (Rd.o hr) (fun _ => rfl) ?_
        refine k_iload_n dX4_see_67 rfl ?_
        refine k_iald i dX4_see_68 (Rd.l2 hr) (Rd.a2 hr) (by decide) (by omega) (by omega) ?_
        simp only [ug_nc (show r + 2 ≠ l + 7 by omega)]
        refine k_iload_n dX4_see_69 rfl ?_
        refine k_callUi [.int (iI _), .int (iI _)] dX4_see_70 s_X4_see_84_X10 rfl (m_walkerHigh (Lm.l1 hl) (Lm.a1 hl)) rfl (Lm.l1 hl) (Lm.a1 hl) ⟨_, rfl, rfl⟩ (Nat.le_of_ble_eq_true rfl) ?_
        rintro _ _ ⟨rfl, rfl⟩
        refine k_goto 77 dX4_see_73 (by decide) ?_
        refine k_iast i dX4_see_77 (Lm.l8 hl) (Lm.a8 hl) (by decide) (by omega) (by omega) ?_
        refine k_iinc (L' := [_, _, _, _, _]) dX4_see_78 rfl (Nat.le_of_ble_eq_true rfl) rfl ?_
        refine k_goto 2 dX4_see_81 (by decide) ?_
        exact ih _ (SeeI.step hV (by omega) hI (by show _ = q_pos (G (r + 1) i) (G (r + 3) i) (G (r + 4) i) t; rw [e3, hk]; (try rw [e4]); rfl) (by show _ = q_hi (G (r + 1) i) (G (r + 2) i) (G (r + 5) i) t; first | (rw [q_hi_pos (by omega), hk]; (try rw [e2]); rfl) | exact (q_hi_neg (by omega)).symm)) _
    · skip
      refine k_iload_n dX4_see_2 rfl ?_
      refine k_aload_n dX4_see_3 rfl ?_
      refine k_getI dX4_see_4 f_X4_55 (Rd.l0 hr) (Rd.o hr) (fun _ => rfl) ?_
      refine k_icmp_ge 84 dX4_see_7 (by decide) ⟨by omega, by omega⟩ ⟨by omega, by omega⟩ (fun h7 => absurd h7 (by omega)) (fun h7 => ?_)
      refine k_aload_n dX4_see_10 rfl ?_
      refine k_aload_n dX4_see_11 rfl ?_
      refine k_getR dX4_see_12 f_X4_61 (Rd.l0 hr) (Rd.o hr) (fun _ => rfl) ?_
      refine k_iload_n dX4_see_15 rfl ?_
      refine k_iald i dX4_see_16 (Rd.l1 hr) (Rd.a1 hr) (by decide) (by omega) (by omega) ?_
      refine k_callVa [.int (iI _)] dX4_see_17 s_X4_see_64 rfl (m_kindOf1 hl (by omega)) rfl (Lm.l0 hl) (Lm.o hl) ⟨_, rfl, rfl⟩ (Nat.le_of_ble_eq_true rfl) ?_
      rintro _ _ ⟨rfl, rfl⟩
      refine k_astore (L' := [_, _, _, _, _]) dX4_see_20 (Nat.le_of_ble_eq_true rfl) rfl ?_
      refine k_aload_n dX4_see_22 rfl ?_
      refine k_getR dX4_see_23 f_X4_48 (Lm.l0 hl) (Lm.o hl) (fun _ => rfl) ?_
      refine k_iload_n dX4_see_26 rfl ?_
      refine k_aload dX4_see_27 rfl ?_
      refine k_aload_n dX4_see_29 rfl ?_
      refine k_getR dX4_see_30 f_X4_68 (Rd.l0 hr) (Rd.o hr) (fun _ => rfl) ?_
      refine k_iload_n dX4_see_33 rfl ?_
      refine k_iald i dX4_see_34 (Rd.l3 hr) (Rd.a3 hr) (by decide) (by omega) (by omega) ?_
      refine k_aload_n dX4_see_35 rfl ?_
      refine k_getR dX4_see_36 f_X4_71 (Rd.l0 hr) (Rd.o hr) (fun _ => rfl) ?_
      refine k_iload_n dX4_see_39 rfl ?_
      refine k_iald i dX4_see_40 (Rd.l4 hr) (Rd.a4 hr) (by decide) (by omega) (by omega) ?_
      refine k_iload_n dX4_see_41 rfl ?_
      refine k_callUi [.int (iI _), .int (iI _), .int (iI _)] dX4_see_42 s_X4_see_74_X3 rfl (m_walkerCell (Lm.l2 hl) (Lm.a2 hl) (by omega) (by omega) (by omega)) rfl (Lm.l2 hl) (Lm.a2 hl) ⟨_, rfl, rfl⟩ (Nat.le_of_ble_eq_true rfl) ?_
      rintro _ _ ⟨rfl, rfl⟩
      refine k_iast i dX4_see_45 (Lm.l7 hl) (Lm.a7 hl) (by decide) (by omega) (by omega) ?_
      refine k_aload_n dX4_see_46 rfl ?_
      refine k_getR dX4_see_47 f_X4_52 (Lm.l0 hl) (Lm.o hl) (fun _ => rfl) ?_
      refine k_iload_n dX4_see_50 rfl ?_
      refine k_iload_n dX4_see_51 rfl ?_
      refine k_aload_n dX4_see_52 rfl ?_
      refine k_getR dX4_see_53 f_X4_78 (Rd.l0 hr) (Rd.o hr) (fun _ => rfl) ?_
      refine k_iload_n dX4_see_56 rfl ?_
      refine k_iald i dX4_see_57 (Rd.l5 hr) (Rd.a5 hr) (by decide) (by omega) (by omega) ?_
      simp only [ug_nc (show r + 5 ≠ l + 7 by omega)]
      refine k_icmp_ge 76 dX4_see_58 (by decide) ⟨by omega, by omega⟩ ⟨by omega, by omega⟩ (fun h58 => ?_) (fun h58 => ?_)
      · skip
        refine k_iconst dX4_see_76 ?_
        refine k_iast i dX4_see_77 (Lm.l8 hl) (Lm.a8 hl) (by decide) (by omega) (by omega) ?_
        refine k_iinc (L' := [_, _, _, _, _]) dX4_see_78 rfl (Nat.le_of_ble_eq_true rfl) rfl ?_
        refine k_goto 2 dX4_see_81 (by decide) ?_
        exact ih _ (SeeI.step hV (by omega) hI (by show _ = q_pos (G (r + 1) i) (G (r + 3) i) (G (r + 4) i) t; rw [e3, hk]; (try rw [e4]); rfl) (by show _ = q_hi (G (r + 1) i) (G (r + 2) i) (G (r + 5) i) t; first | (rw [q_hi_pos (by omega), hk]; (try rw [e2]); rfl) | exact (q_hi_neg (by omega)).symm)) _
      · skip
        refine k_aload dX4_see_61 rfl ?_
        refine k_aload_n dX4_see_63 rfl ?_
        refine k_getR dX4_see_64 f_X4_81 (Rd.l0 hr) (Rd.o hr) (fun _ => rfl) ?_
        refine k_iload_n dX4_see_67 rfl ?_
        refine k_iald i dX4_see_68 (Rd.l2 hr) (Rd.a2 hr) (by decide) (by omega) (by omega) ?_
        simp only [ug_nc (show r + 2 ≠ l + 7 by omega)]
        refine k_iload_n dX4_see_69 rfl ?_
        refine k_callUi [.int (iI _), .int (iI _)] dX4_see_70 s_X4_see_84_X3 rfl (m_heldHigh (Lm.l2 hl) (Lm.a2 hl) ⟨_, rfl⟩ (by omega)) rfl (Lm.l2 hl) (Lm.a2 hl) ⟨_, rfl, rfl⟩ (Nat.le_of_ble_eq_true rfl) ?_
        rintro _ _ ⟨rfl, rfl⟩
        refine k_goto 77 dX4_see_73 (by decide) ?_
        refine k_iast i dX4_see_77 (Lm.l8 hl) (Lm.a8 hl) (by decide) (by omega) (by omega) ?_
        refine k_iinc (L' := [_, _, _, _, _]) dX4_see_78 rfl (Nat.le_of_ble_eq_true rfl) rfl ?_
        refine k_goto 2 dX4_see_81 (by decide) ?_
        exact ih _ (SeeI.step hV (by omega) hI (by show _ = q_pos (G (r + 1) i) (G (r + 3) i) (G (r + 4) i) t; rw [e3, hk]; (try rw [e4]); rfl) (by show _ = q_hi (G (r + 1) i) (G (r + 2) i) (G (r + 5) i) t; first | (rw [q_hi_pos (by omega), hk]; (try rw [e2]); rfl) | exact (q_hi_neg (by omega)).symm)) _
    · skip
      refine k_iload_n dX4_see_2 rfl ?_
      refine k_aload_n dX4_see_3 rfl ?_
      refine k_getI dX4_see_4 f_X4_55 (Rd.l0 hr) (Rd.o hr) (fun _ => rfl) ?_
      refine k_icmp_ge 84 dX4_see_7 (by decide) ⟨by omega, by omega⟩ ⟨by omega, by omega⟩ (fun h7 => absurd h7 (by omega)) (fun h7 => ?_)
      refine k_aload_n dX4_see_10 rfl ?_
      refine k_aload_n dX4_see_11 rfl ?_
      refine k_getR dX4_see_12 f_X4_61 (Rd.l0 hr) (Rd.o hr) (fun _ => rfl) ?_
      refine k_iload_n dX4_see_15 rfl ?_
      refine k_iald i dX4_see_16 (Rd.l1 hr) (Rd.a1 hr) (by decide) (by omega) (by omega) ?_
      refine k_callVa [.int (iI _)] dX4_see_17 s_X4_see_64 rfl (m_kindOf2 hl (by omega)) rfl (Lm.l0 hl) (Lm.o hl) ⟨_, rfl, rfl⟩ (Nat.le_of_ble_eq_true rfl) ?_
      rintro _ _ ⟨rfl, rfl⟩
      refine k_astore (L' := [_, _, _, _, _]) dX4_see_20 (Nat.le_of_ble_eq_true rfl) rfl ?_
      refine k_aload_n dX4_see_22 rfl ?_
      refine k_getR dX4_see_23 f_X4_48 (Lm.l0 hl) (Lm.o hl) (fun _ => rfl) ?_
      refine k_iload_n dX4_see_26 rfl ?_
      refine k_aload dX4_see_27 rfl ?_
      refine k_aload_n dX4_see_29 rfl ?_
      refine k_getR dX4_see_30 f_X4_68 (Rd.l0 hr) (Rd.o hr) (fun _ => rfl) ?_
      refine k_iload_n dX4_see_33 rfl ?_
      refine k_iald i dX4_see_34 (Rd.l3 hr) (Rd.a3 hr) (by decide) (by omega) (by omega) ?_
      refine k_aload_n dX4_see_35 rfl ?_
      refine k_getR dX4_see_36 f_X4_71 (Rd.l0 hr) (Rd.o hr) (fun _ => rfl) ?_
      refine k_iload_n dX4_see_39 rfl ?_
      refine k_iald i dX4_see_40 (Rd.l4 hr) (Rd.a4 hr) (by decide) (by omega) (by omega) ?_
      refine k_iload_n dX4_see_41 rfl ?_
      refine k_callUi [.int (iI _), .int (iI _), .int (iI _)] dX4_see_42 s_X4_see_74_X5 rfl (m_playerCell (Lm.l3 hl) (Lm.a3 hl) (by omega) (by omega) (by omega)) rfl (Lm.l3 hl) (Lm.a3 hl) ⟨_, rfl, rfl⟩ (Nat.le_of_ble_eq_true rfl) ?_
      rintro _ _ ⟨rfl, rfl⟩
      refine k_iast i dX4_see_45 (Lm.l7 hl) (Lm.a7 hl) (by decide) (by omega) (by omega) ?_
      refine k_aload_n dX4_see_46 rfl ?_
      refine k_getR dX4_see_47 f_X4_52 (Lm.l0 hl) (Lm.o hl) (fun _ => rfl) ?_
      refine k_iload_n dX4_see_50 rfl ?_
      refine k_iload_n dX4_see_51 rfl ?_
      refine k_aload_n dX4_see_52 rfl ?_
      refine k_getR dX4_see_53 f_X4_78 (Rd.l0 hr) (Rd.o hr) (fun _ => rfl) ?_
      refine k_iload_n dX4_see_56 rfl ?_
      refine k_iald i dX4_see_57 (Rd.l5 hr) (Rd.a5 hr) (by decide) (by omega) (by omega) ?_
      simp only [ug_nc (show r + 5 ≠ l + 7 by omega)]
      refine k_icmp_ge 76 dX4_see_58 (by decide) ⟨by omega, by omega⟩ ⟨by omega, by omega⟩ (fun h58 => ?_) (fun h58 => ?_)
      · skip
        refine k_iconst dX4_see_76 ?_
        refine k_iast i dX4_see_77 (Lm.l8 hl) (Lm.a8 hl) (by decide) (by omega) (by omega) ?_
        refine k_iinc (L' := [_, _, _, _, _]) dX4_see_78 rfl (Nat.le_of_ble_eq_true rfl) rfl ?_
        refine k_goto 2 dX4_see_81 (by decide) ?_
        exact ih _ (SeeI.step hV (by omega) hI (by show _ = q_pos (G (r + 1) i) (G (r + 3) i) (G (r + 4) i) t; rw [e3, hk]; (try rw [e4]); rfl) (by show _ = q_hi (G (r + 1) i) (G (r + 2) i) (G (r + 5) i) t; first | (rw [q_hi_pos (by omega), hk]; (try rw [e2]); rfl) | exact (q_hi_neg (by omega)).symm)) _
      · skip
        refine k_aload dX4_see_61 rfl ?_
        refine k_aload_n dX4_see_63 rfl ?_
        refine k_getR dX4_see_64 f_X4_81 (Rd.l0 hr) (Rd.o hr) (fun _ => rfl) ?_
        refine k_iload_n dX4_see_67 rfl ?_
        refine k_iald i dX4_see_68 (Rd.l2 hr) (Rd.a2 hr) (by decide) (by omega) (by omega) ?_
        simp only [ug_nc (show r + 2 ≠ l + 7 by omega)]
        refine k_iload_n dX4_see_69 rfl ?_
        refine k_callUi [.int (iI _), .int (iI _)] dX4_see_70 s_X4_see_84_X5 rfl (m_walkerHigh (Lm.l3 hl) (Lm.a3 hl)) rfl (Lm.l3 hl) (Lm.a3 hl) ⟨_, rfl, rfl⟩ (Nat.le_of_ble_eq_true rfl) ?_
        rintro _ _ ⟨rfl, rfl⟩
        refine k_goto 77 dX4_see_73 (by decide) ?_
        refine k_iast i dX4_see_77 (Lm.l8 hl) (Lm.a8 hl) (by decide) (by omega) (by omega) ?_
        refine k_iinc (L' := [_, _, _, _, _]) dX4_see_78 rfl (Nat.le_of_ble_eq_true rfl) rfl ?_
        refine k_goto 2 dX4_see_81 (by decide) ?_
        exact ih _ (SeeI.step hV (by omega) hI (by show _ = q_pos (G (r + 1) i) (G (r + 3) i) (G (r + 4) i) t; rw [e3, hk]; (try rw [e4]); rfl) (by show _ = q_hi (G (r + 1) i) (G (r + 2) i) (G (r + 5) i) t; first | (rw [q_hi_pos (by omega), hk]; (try rw [e2]); rfl) | exact (q_hi_neg (by omega)).symm)) _
    · skip
      refine k_iload_n dX4_see_2 rfl ?_
      refine k_aload_n dX4_see_3 rfl ?_
      refine k_getI dX4_see_4 f_X4_55 (Rd.l0 hr) (Rd.o hr) (fun _ => rfl) ?_
      refine k_icmp_ge 84 dX4_see_7 (by decide) ⟨by omega, by omega⟩ ⟨by omega, by omega⟩ (fun h7 => absurd h7 (by omega)) (fun h7 => ?_)
      refine k_aload_n dX4_see_10 rfl ?_
      refine k_aload_n dX4_see_11 rfl ?_
      refine k_getR dX4_see_12 f_X4_61 (Rd.l0 hr) (Rd.o hr) (fun _ => rfl) ?_
      refine k_iload_n dX4_see_15 rfl ?_
      refine k_iald i dX4_see_16 (Rd.l1 hr) (Rd.a1 hr) (by decide) (by omega) (by omega) ?_
      refine k_callVa [.int (iI _)] dX4_see_17 s_X4_see_64 rfl (m_kindOf3 hl (by omega)) rfl (Lm.l0 hl) (Lm.o hl) ⟨_, rfl, rfl⟩ (Nat.le_of_ble_eq_true rfl) ?_
      rintro _ _ ⟨rfl, rfl⟩
      refine k_astore (L' := [_, _, _, _, _]) dX4_see_20 (Nat.le_of_ble_eq_true rfl) rfl ?_
      refine k_aload_n dX4_see_22 rfl ?_
      refine k_getR dX4_see_23 f_X4_48 (Lm.l0 hl) (Lm.o hl) (fun _ => rfl) ?_
      refine k_iload_n dX4_see_26 rfl ?_
      refine k_aload dX4_see_27 rfl ?_
      refine k_aload_n dX4_see_29 rfl ?_
      refine k_getR dX4_see_30 f_X4_68 (Rd.l0 hr) (Rd.o hr) (fun _ => rfl) ?_
      refine k_iload_n dX4_see_33 rfl ?_
      refine k_iald i dX4_see_34 (Rd.l3 hr) (Rd.a3 hr) (by decide) (by omega) (by omega) ?_
      refine k_aload_n dX4_see_35 rfl ?_
      refine k_getR dX4_see_36 f_X4_71 (Rd.l0 hr) (Rd.o hr) (fun _ => rfl) ?_
      refine k_iload_n dX4_see_39 rfl ?_
      refine k_iald i dX4_see_40 (Rd.l4 hr) (Rd.a4 hr) (by decide) (by omega) (by omega) ?_
      refine k_iload_n dX4_see_41 rfl ?_
      refine k_callUi [.int (iI _), .int (iI _), .int (iI _)] dX4_see_42 s_X4_see_74_X9 rfl (m_walkerCell (Lm.l4 hl) (Lm.a4 hl) (by omega) (by omega) (by omega)) rfl (Lm.l4 hl) (Lm.a4 hl) ⟨_, rfl, rfl⟩ (Nat.le_of_ble_eq_true rfl) ?_
      rintro _ _ ⟨rfl, rfl⟩
      refine k_iast i dX4_see_45 (Lm.l7 hl) (Lm.a7 hl) (by decide) (by omega) (by omega) ?_
      refine k_aload_n dX4_see_46 rfl ?_
      refine k_getR dX4_see_47 f_X4_52 (Lm.l0 hl) (Lm.o hl) (fun _ => rfl) ?_
      refine k_iload_n dX4_see_50 rfl ?_
      refine k_iload_n dX4_see_51 rfl ?_
      refine k_aload_n dX4_see_52 rfl ?_
      refine k_getR dX4_see_53 f_X4_78 (Rd.l0 hr) (Rd.o hr) (fun _ => rfl) ?_
      refine k_iload_n dX4_see_56 rfl ?_
      refine k_iald i dX4_see_57 (Rd.l5 hr) (Rd.a5 hr) (by decide) (by omega) (by omega) ?_
      simp only [ug_nc (show r + 5 ≠ l + 7 by omega)]
      refine k_icmp_ge 76 dX4_see_58 (by decide) ⟨by omega, by omega⟩ ⟨by omega, by omega⟩ (fun h58 => ?_) (fun h58 => ?_)
      · skip
        refine k_iconst dX4_see_76 ?_
        refine k_iast i dX4_see_77 (Lm.l8 hl) (Lm.a8 hl) (by decide) (by omega) (by omega) ?_
        refine k_iinc (L' := [_, _, _, _, _]) dX4_see_78 rfl (Nat.le_of_ble_eq_true rfl) rfl ?_
        refine k_goto 2 dX4_see_81 (by decide) ?_
        exact ih _ (SeeI.step hV (by omega) hI (by show _ = q_pos (G (r + 1) i) (G (r + 3) i) (G (r + 4) i) t; rw [e3, hk]; (try rw [e4]); rfl) (by show _ = q_hi (G (r + 1) i) (G (r + 2) i) (G (r + 5) i) t; first | (rw [q_hi_pos (by omega), hk]; (try rw [e2]); rfl) | exact (q_hi_neg (by omega)).symm)) _
      · skip
        refine k_aload dX4_see_61 rfl ?_
        refine k_aload_n dX4_see_63 rfl ?_
        refine k_getR dX4_see_64 f_X4_81 (Rd.l0 hr) (Rd.o hr) (fun _ => rfl) ?_
        refine k_iload_n dX4_see_67 rfl ?_
        refine k_iald i dX4_see_68 (Rd.l2 hr) (Rd.a2 hr) (by decide) (by omega) (by omega) ?_
        simp only [ug_nc (show r + 2 ≠ l + 7 by omega)]
        refine k_iload_n dX4_see_69 rfl ?_
        refine k_callUi [.int (iI _), .int (iI _)] dX4_see_70 s_X4_see_84_X9 rfl (m_twinHigh (Lm.l4 hl) (Lm.a4 hl) ⟨_, rfl⟩ (by omega)) rfl (Lm.l4 hl) (Lm.a4 hl) ⟨_, rfl, rfl⟩ (Nat.le_of_ble_eq_true rfl) ?_
        rintro _ _ ⟨rfl, rfl⟩
        refine k_goto 77 dX4_see_73 (by decide) ?_
        refine k_iast i dX4_see_77 (Lm.l8 hl) (Lm.a8 hl) (by decide) (by omega) (by omega) ?_
        refine k_iinc (L' := [_, _, _, _, _]) dX4_see_78 rfl (Nat.le_of_ble_eq_true rfl) rfl ?_
        refine k_goto 2 dX4_see_81 (by decide) ?_
        exact ih _ (SeeI.step hV (by omega) hI (by show _ = q_pos (G (r + 1) i) (G (r + 3) i) (G (r + 4) i) t; rw [e3, hk]; (try rw [e4]); rfl) (by show _ = q_hi (G (r + 1) i) (G (r + 2) i) (G (r + 5) i) t; first | (rw [q_hi_pos (by omega), hk]; (try rw [e2]); rfl) | exact (q_hi_neg (by omega)).symm)) _
    · skip
      refine k_iload_n dX4_see_2 rfl ?_
      refine k_aload_n dX4_see_3 rfl ?_
      refine k_getI dX4_see_4 f_X4_55 (Rd.l0 hr) (Rd.o hr) (fun _ => rfl) ?_
      refine k_icmp_ge 84 dX4_see_7 (by decide) ⟨by omega, by omega⟩ ⟨by omega, by omega⟩ (fun h7 => absurd h7 (by omega)) (fun h7 => ?_)
      refine k_aload_n dX4_see_10 rfl ?_
      refine k_aload_n dX4_see_11 rfl ?_
      refine k_getR dX4_see_12 f_X4_61 (Rd.l0 hr) (Rd.o hr) (fun _ => rfl) ?_
      refine k_iload_n dX4_see_15 rfl ?_
      refine k_iald i dX4_see_16 (Rd.l1 hr) (Rd.a1 hr) (by decide) (by omega) (by omega) ?_
      refine k_callVa [.int (iI _)] dX4_see_17 s_X4_see_64 rfl (m_kindOf4 hl (by omega)) rfl (Lm.l0 hl) (Lm.o hl) ⟨_, rfl, rfl⟩ (Nat.le_of_ble_eq_true rfl) ?_
      rintro _ _ ⟨rfl, rfl⟩
      refine k_astore (L' := [_, _, _, _, _]) dX4_see_20 (Nat.le_of_ble_eq_true rfl) rfl ?_
      refine k_aload_n dX4_see_22 rfl ?_
      refine k_getR dX4_see_23 f_X4_48 (Lm.l0 hl) (Lm.o hl) (fun _ => rfl) ?_
      refine k_iload_n dX4_see_26 rfl ?_
      refine k_aload dX4_see_27 rfl ?_
      refine k_aload_n dX4_see_29 rfl ?_
      refine k_getR dX4_see_30 f_X4_68 (Rd.l0 hr) (Rd.o hr) (fun _ => rfl) ?_
      refine k_iload_n dX4_see_33 rfl ?_
      refine k_iald i dX4_see_34 (Rd.l3 hr) (Rd.a3 hr) (by decide) (by omega) (by omega) ?_
      refine k_aload_n dX4_see_35 rfl ?_
      refine k_getR dX4_see_36 f_X4_71 (Rd.l0 hr) (Rd.o hr) (fun _ => rfl) ?_
      refine k_iload_n dX4_see_39 rfl ?_
      refine k_iald i dX4_see_40 (Rd.l4 hr) (Rd.a4 hr) (by decide) (by omega) (by omega) ?_
      refine k_iload_n dX4_see_41 rfl ?_
      refine k_callUi [.int (iI _), .int (iI _), .int (iI _)] dX4_see_42 s_X4_see_74_X2 rfl (m_walkerCell (Lm.l5 hl) (Lm.a5 hl) (by omega) (by omega) (by omega)) rfl (Lm.l5 hl) (Lm.a5 hl) ⟨_, rfl, rfl⟩ (Nat.le_of_ble_eq_true rfl) ?_
      rintro _ _ ⟨rfl, rfl⟩
      refine k_iast i dX4_see_45 (Lm.l7 hl) (Lm.a7 hl) (by decide) (by omega) (by omega) ?_
      refine k_aload_n dX4_see_46 rfl ?_
      refine k_getR dX4_see_47 f_X4_52 (Lm.l0 hl) (Lm.o hl) (fun _ => rfl) ?_
      refine k_iload_n dX4_see_50 rfl ?_
      refine k_iload_n dX4_see_51 rfl ?_
      refine k_aload_n dX4_see_52 rfl ?_
      refine k_getR dX4_see_53 f_X4_78 (Rd.l0 hr) (Rd.o hr) (fun _ => rfl) ?_
      refine k_iload_n dX4_see_56 rfl ?_
      refine k_iald i dX4_see_57 (Rd.l5 hr) (Rd.a5 hr) (by decide) (by omega) (by omega) ?_
      simp only [ug_nc (show r + 5 ≠ l + 7 by omega)]
      refine k_icmp_ge 76 dX4_see_58 (by decide) ⟨by omega, by omega⟩ ⟨by omega, by omega⟩ (fun h58 => ?_) (fun h58 => ?_)
      · skip
        refine k_iconst dX4_see_76 ?_
        refine k_iast i dX4_see_77 (Lm.l8 hl) (Lm.a8 hl) (by decide) (by omega) (by omega) ?_
        refine k_iinc (L' := [_, _, _, _, _]) dX4_see_78 rfl (Nat.le_of_ble_eq_true rfl) rfl ?_
        refine k_goto 2 dX4_see_81 (by decide) ?_
        exact ih _ (SeeI.step hV (by omega) hI (by show _ = q_pos (G (r + 1) i) (G (r + 3) i) (G (r + 4) i) t; rw [e3, hk]; (try rw [e4]); rfl) (by show _ = q_hi (G (r + 1) i) (G (r + 2) i) (G (r + 5) i) t; first | (rw [q_hi_pos (by omega), hk]; (try rw [e2]); rfl) | exact (q_hi_neg (by omega)).symm)) _
      · skip
        refine k_aload dX4_see_61 rfl ?_
        refine k_aload_n dX4_see_63 rfl ?_
        refine k_getR dX4_see_64 f_X4_81 (Rd.l0 hr) (Rd.o hr) (fun _ => rfl) ?_
        refine k_iload_n dX4_see_67 rfl ?_
        refine k_iald i dX4_see_68 (Rd.l2 hr) (Rd.a2 hr) (by decide) (by omega) (by omega) ?_
        simp only [ug_nc (show r + 2 ≠ l + 7 by omega)]
        refine k_iload_n dX4_see_69 rfl ?_
        refine k_callUi [.int (iI _), .int (iI _)] dX4_see_70 s_X4_see_84_X2 rfl (m_growsHigh (Lm.l5 hl) (Lm.a5 hl) ⟨_, rfl⟩ (by omega) (by omega)) rfl (Lm.l5 hl) (Lm.a5 hl) ⟨_, rfl, rfl⟩ (Nat.le_of_ble_eq_true rfl) ?_
        rintro _ _ ⟨rfl, rfl⟩
        refine k_goto 77 dX4_see_73 (by decide) ?_
        refine k_iast i dX4_see_77 (Lm.l8 hl) (Lm.a8 hl) (by decide) (by omega) (by omega) ?_
        refine k_iinc (L' := [_, _, _, _, _]) dX4_see_78 rfl (Nat.le_of_ble_eq_true rfl) rfl ?_
        refine k_goto 2 dX4_see_81 (by decide) ?_
        exact ih _ (SeeI.step hV (by omega) hI (by show _ = q_pos (G (r + 1) i) (G (r + 3) i) (G (r + 4) i) t; rw [e3, hk]; (try rw [e4]); rfl) (by show _ = q_hi (G (r + 1) i) (G (r + 2) i) (G (r + 5) i) t; first | (rw [q_hi_pos (by omega), hk]; (try rw [e2]); rfl) | exact (q_hi_neg (by omega)).symm)) _
    · skip
      refine k_iload_n dX4_see_2 rfl ?_
      refine k_aload_n dX4_see_3 rfl ?_
      refine k_getI dX4_see_4 f_X4_55 (Rd.l0 hr) (Rd.o hr) (fun _ => rfl) ?_
      refine k_icmp_ge 84 dX4_see_7 (by decide) ⟨by omega, by omega⟩ ⟨by omega, by omega⟩ (fun h7 => absurd h7 (by omega)) (fun h7 => ?_)
      refine k_aload_n dX4_see_10 rfl ?_
      refine k_aload_n dX4_see_11 rfl ?_
      refine k_getR dX4_see_12 f_X4_61 (Rd.l0 hr) (Rd.o hr) (fun _ => rfl) ?_
      refine k_iload_n dX4_see_15 rfl ?_
      refine k_iald i dX4_see_16 (Rd.l1 hr) (Rd.a1 hr) (by decide) (by omega) (by omega) ?_
      refine k_callVa [.int (iI _)] dX4_see_17 s_X4_see_64 rfl (m_kindOf5 hl (by omega)) rfl (Lm.l0 hl) (Lm.o hl) ⟨_, rfl, rfl⟩ (Nat.le_of_ble_eq_true rfl) ?_
      rintro _ _ ⟨rfl, rfl⟩
      refine k_astore (L' := [_, _, _, _, _]) dX4_see_20 (Nat.le_of_ble_eq_true rfl) rfl ?_
      refine k_aload_n dX4_see_22 rfl ?_
      refine k_getR dX4_see_23 f_X4_48 (Lm.l0 hl) (Lm.o hl) (fun _ => rfl) ?_
      refine k_iload_n dX4_see_26 rfl ?_
      refine k_aload dX4_see_27 rfl ?_
      refine k_aload_n dX4_see_29 rfl ?_
      refine k_getR dX4_see_30 f_X4_68 (Rd.l0 hr) (Rd.o hr) (fun _ => rfl) ?_
      refine k_iload_n dX4_see_33 rfl ?_
      refine k_iald i dX4_see_34 (Rd.l3 hr) (Rd.a3 hr) (by decide) (by omega) (by omega) ?_
      refine k_aload_n dX4_see_35 rfl ?_
      refine k_getR dX4_see_36 f_X4_71 (Rd.l0 hr) (Rd.o hr) (fun _ => rfl) ?_
      refine k_iload_n dX4_see_39 rfl ?_
      refine k_iald i dX4_see_40 (Rd.l4 hr) (Rd.a4 hr) (by decide) (by omega) (by omega) ?_
      refine k_iload_n dX4_see_41 rfl ?_
      refine k_callUi [.int (iI _), .int (iI _), .int (iI _)] dX4_see_42 s_X4_see_74_X0 rfl (m_playerCell (Lm.l6 hl) (Lm.a6 hl) (by omega) (by omega) (by omega)) rfl (Lm.l6 hl) (Lm.a6 hl) ⟨_, rfl, rfl⟩ (Nat.le_of_ble_eq_true rfl) ?_
      rintro _ _ ⟨rfl, rfl⟩
      refine k_iast i dX4_see_45 (Lm.l7 hl) (Lm.a7 hl) (by decide) (by omega) (by omega) ?_
      refine k_aload_n dX4_see_46 rfl ?_
      refine k_getR dX4_see_47 f_X4_52 (Lm.l0 hl) (Lm.o hl) (fun _ => rfl) ?_
      refine k_iload_n dX4_see_50 rfl ?_
      refine k_iload_n dX4_see_51 rfl ?_
      refine k_aload_n dX4_see_52 rfl ?_
      refine k_getR dX4_see_53 f_X4_78 (Rd.l0 hr) (Rd.o hr) (fun _ => rfl) ?_
      refine k_iload_n dX4_see_56 rfl ?_
      refine k_iald i dX4_see_57 (Rd.l5 hr) (Rd.a5 hr) (by decide) (by omega) (by omega) ?_
      simp only [ug_nc (show r + 5 ≠ l + 7 by omega)]
      refine k_icmp_ge 76 dX4_see_58 (by decide) ⟨by omega, by omega⟩ ⟨by omega, by omega⟩ (fun h58 => ?_) (fun h58 => ?_)
      · skip
        refine k_iconst dX4_see_76 ?_
        refine k_iast i dX4_see_77 (Lm.l8 hl) (Lm.a8 hl) (by decide) (by omega) (by omega) ?_
        refine k_iinc (L' := [_, _, _, _, _]) dX4_see_78 rfl (Nat.le_of_ble_eq_true rfl) rfl ?_
        refine k_goto 2 dX4_see_81 (by decide) ?_
        exact ih _ (SeeI.step hV (by omega) hI (by show _ = q_pos (G (r + 1) i) (G (r + 3) i) (G (r + 4) i) t; rw [e3, hk]; (try rw [e4]); rfl) (by show _ = q_hi (G (r + 1) i) (G (r + 2) i) (G (r + 5) i) t; first | (rw [q_hi_pos (by omega), hk]; (try rw [e2]); rfl) | exact (q_hi_neg (by omega)).symm)) _
      · skip
        refine k_aload dX4_see_61 rfl ?_
        refine k_aload_n dX4_see_63 rfl ?_
        refine k_getR dX4_see_64 f_X4_81 (Rd.l0 hr) (Rd.o hr) (fun _ => rfl) ?_
        refine k_iload_n dX4_see_67 rfl ?_
        refine k_iald i dX4_see_68 (Rd.l2 hr) (Rd.a2 hr) (by decide) (by omega) (by omega) ?_
        simp only [ug_nc (show r + 2 ≠ l + 7 by omega)]
        refine k_iload_n dX4_see_69 rfl ?_
        refine k_callUi [.int (iI _), .int (iI _)] dX4_see_70 s_X4_see_84_X0 rfl (m_dollHigh (Lm.l6 hl) (Lm.a6 hl) ⟨_, rfl⟩ (by omega) (by omega)) rfl (Lm.l6 hl) (Lm.a6 hl) ⟨_, rfl, rfl⟩ (Nat.le_of_ble_eq_true rfl) ?_
        rintro _ _ ⟨rfl, rfl⟩
        refine k_goto 77 dX4_see_73 (by decide) ?_
        refine k_iast i dX4_see_77 (Lm.l8 hl) (Lm.a8 hl) (by decide) (by omega) (by omega) ?_
        refine k_iinc (L' := [_, _, _, _, _]) dX4_see_78 rfl (Nat.le_of_ble_eq_true rfl) rfl ?_
        refine k_goto 2 dX4_see_81 (by decide) ?_
        exact ih _ (SeeI.step hV (by omega) hI (by show _ = q_pos (G (r + 1) i) (G (r + 3) i) (G (r + 4) i) t; rw [e3, hk]; (try rw [e4]); rfl) (by show _ = q_hi (G (r + 1) i) (G (r + 2) i) (G (r + 5) i) t; first | (rw [q_hi_pos (by omega), hk]; (try rw [e2]); rfl) | exact (q_hi_neg (by omega)).symm)) _
theorem m_see {G : Mem} {l r : Nat} (hl : Lm l) (hr : Rd r) (hrl : r + 12 < l) (hV : Vok (rv G r)) {t : Int} (ht : 0 ≤ t ∧ t < 60) (hok : q_ok (G (l + 7)) (G (l + 8))) : MP M_X4_see [.ref l, .ref r, .int (iI t)] G (vv (SeeI G r l t (G r 2).toNat)) := by
  refine MP.of [some (.ref l), some (.ref r), some (.int (iI t)), none, none] (plainFor_of_name pn_X4) (Nat.le_of_ble_eq_true rfl) rfl ?_
  refine k_iconst dX4_see_0 ?_
  refine k_istore_n (L' := [_, _, _, _, _]) dX4_see_1 (Nat.le_of_ble_eq_true rfl) rfl ?_
  exact lp_see hl hr hrl hV ht 0 (Nat.zero_le _) G ⟨fun _ _ _ _ => rfl, fun j hj => absurd hj (by omega), hok⟩ _
