/-! ===== the limit by a view; what Limits keep ===== -/
theorem q_seen_c {sg : Int} {P H P' H' : Nat → Int} {set : Nat} {x : Int} {i : Nat} (h : P i = P' i ∧ H i = H' i) : q_seen sg P H set x i = q_seen sg P' H' set x i := by
  unfold q_seen
  rw [h.1, h.2]
theorem q_nb_c {sg : Int} {P H P' H' : Nat → Int} {set : Nat} {x rk : Int} : ∀ i, (∀ j, j < i → P j = P' j ∧ H j = H' j) → q_nb sg P H set x rk i = q_nb sg P' H' set x rk i
  | 0, _ => rfl
  | i + 1, h => by
    have h1 := q_nb_c (sg := sg) (set := set) (x := x) (rk := rk) i (fun j hj => h j (by omega))
    have h2 := h i (by omega)
    unfold q_nb
    rw [h1, q_seen_c h2]
    unfold q_rk
    rw [h2.1, h2.2]
theorem q_low_c {sg : Int} {P H P' H' : Nat → Int} {set : Nat} {x : Int} : ∀ i, (∀ j, j < i → P j = P' j ∧ H j = H' j) → q_low sg P H set x i = q_low sg P' H' set x i
  | 0, _ => rfl
  | i + 1, h => by
    have h1 := q_low_c (sg := sg) (set := set) (x := x) i (fun j hj => h j (by omega))
    have h2 := h i (by omega)
    unfold q_low
    rw [h1, q_seen_c h2, h2.2]
theorem q_lim_c {law sg : Int} {n : Nat} {P H P' H' : Nat → Int} {set : Nat} {x : Int} (h : ∀ j, j < n → P j = P' j ∧ H j = H' j) : q_lim law sg n P H set x = q_lim law sg n P' H' set x := by
  unfold q_lim
  rw [q_low_c n h, q_nb_c n h, q_nb_c n h]
theorem q_ob_c {P H P' H' : Nat → Int} {a b : Int} : ∀ i, (∀ j, j < i → P j = P' j ∧ H j = H' j) → q_ob P H a b i = q_ob P' H' a b i
  | 0, _ => rfl
  | i + 1, h => by
    have h1 := q_ob_c (a := a) (b := b) i (fun j hj => h j (by omega))
    have h2 := h i (by omega)
    unfold q_ob
    rw [h1, h2.1, h2.2]
theorem q_rk_h {P H : Nat → Int} {x : Int} {i : Nat} (h : 0 ≤ H i ∧ H i ≤ 9) (hi : i < 6) : q_rk P H x i / 8 % 16 = H i := by unfold q_rk; omega
theorem q_rk_i {P H : Nat → Int} {x : Int} {i : Nat} (hi : i < 6) : q_rk P H x i % 8 = i := by unfold q_rk; omega
theorem q_nb_ex {sg : Int} {P H : Nat → Int} {set : Nat} {x rk : Int} : ∀ i, q_nb sg P H set x rk i = 1048576 ∨ ∃ j, j < i ∧ q_seen sg P H set x j = true ∧ q_nb sg P H set x rk i = q_rk P H x j ∧ rk < q_rk P H x j
  | 0 => Or.inl rfl
  | i + 1 => by
    rcases (inferInstance : Decidable (q_seen sg P H set x i = true ∧ rk < q_rk P H x i ∧ q_rk P H x i < q_nb sg P H set x rk i)) with h | h
    · rcases q_nb_ex (sg := sg) (P := P) (H := H) (set := set) (x := x) (rk := rk) i with h1 | ⟨j, h1, h2, h3, h4⟩
      · left; unfold q_nb; rw [if_neg h]; exact h1
      · right; exact ⟨j, by omega, h2, by unfold q_nb; rw [if_neg h]; exact h3, h4⟩
    · right; exact ⟨i, by omega, h.1, by unfold q_nb; rw [if_pos h], h.2.1⟩
theorem q_lim_b {law sg : Int} {n : Nat} {P H : Nat → Int} {set : Nat} {x : Int} (hn : n ≤ 6) (h : q_ok P H) : 0 ≤ q_lim law sg n P H set x ∧ q_lim law sg n P H set x ≤ 9 := by
  have hh : ∀ rk, q_nb sg P H set x rk n ≠ 1048576 → 0 ≤ q_nb sg P H set x rk n / 8 % 16 ∧ q_nb sg P H set x rk n / 8 % 16 ≤ 9 := by
    intro rk hne
    rcases q_nb_ex (sg := sg) (P := P) (H := H) (set := set) (x := x) (rk := rk) n with h1 | ⟨j, h1, h2, h3, h4⟩
    · exact absurd h1 hne
    · have := h j
      rw [h3, q_rk_h ⟨by omega, by omega⟩ (by omega)]
      omega
  have hl := q_low_b h (sg := sg) (set := set) (x := x) n
  unfold q_lim
  split
  · exact hl
  · split
    · omega
    · next h2 =>
      have a := hh _ h2
      split
      · exact a
      · split
        · exact a
        · next h3 =>
          have b := hh _ h3
          omega
def vLim (V : Mem) (t : Int) (set : Nat) (x : Int) : Int := q_lim (V 0 1) (V 0 0) (V 0 2).toNat (vP V t) (vH V t) set x
theorem vLim_b {V : Mem} (h : Vok V) {t : Int} (ht : 0 ≤ t ∧ t ≤ 60) (set : Nat) (x : Int) : 0 ≤ vLim V t set x ∧ vLim V t set x ≤ 9 := by
  have := h.2.2.1
  exact q_lim_b (by omega) (vok h ht)
def Veq (V V' : Mem) : Prop := ∀ a b, a ≤ 12 → V a b = V' a b
theorem Veq.P {V V' : Mem} (h : Veq V V') (t : Int) : vP V t = vP V' t := by
  funext i
  unfold vP
  rw [h 1 i (by omega), h 3 i (by omega), h 4 i (by omega)]
theorem Veq.H {V V' : Mem} (h : Veq V V') (t : Int) : vH V t = vH V' t := by
  funext i
  unfold vH
  rw [h 1 i (by omega), h 2 i (by omega), h 5 i (by omega)]
theorem Veq.lim {V V' : Mem} (h : Veq V V') : vLim V = vLim V' := by
  funext t set x
  unfold vLim
  rw [h 0 0 (by omega), h 0 1 (by omega), h 0 2 (by omega), h.P, h.H]
theorem Veq.ok {V V' : Mem} (h : Veq V V') (k : Vok V) : Vok V' := by
  unfold Vok at k ⊢
  rw [← h 0 0 (by omega), ← h 0 1 (by omega), ← h 0 2 (by omega)]
  refine ⟨k.1, k.2.1, k.2.2.1, fun i => ?_⟩
  rw [← h 1 i (by omega), ← h 2 i (by omega), ← h 3 i (by omega), ← h 4 i (by omega), ← h 5 i (by omega)]
  exact k.2.2.2 i
/-- only the rows of the limits at l have changed -/
def LI (l : Nat) (G G1 : Mem) : Prop := (∀ a b, a ≠ l + 7 → a ≠ l + 8 → G1 a b = G a b) ∧ q_ok (G1 (l + 7)) (G1 (l + 8))
theorem LI.rf {l : Nat} {G : Mem} (h : q_ok (G (l + 7)) (G (l + 8))) : LI l G G := ⟨fun _ _ _ _ => rfl, h⟩
theorem LI.veq {l r : Nat} {G G1 : Mem} (h : LI l G G1) (hrl : r + 12 < l) : Veq (rv G r) (rv G1 r) := fun a b ha => (h.1 (r + a) b (by omega) (by omega)).symm
theorem SeeI.li {l r n : Nat} {t : Int} {G G1 : Mem} (h : SeeI G r l t n G1) : LI l G G1 := ⟨h.1, h.2.2⟩
theorem SeeI.up {l r n : Nat} {t : Int} {G G1 G2 : Mem} (hI : LI l G G1) (hrl : r + 12 < l) (h : SeeI G1 r l t n G2) : SeeI G r l t n G2 := by
  refine ⟨fun a b ha hb => (h.1 a b ha hb).trans (hI.1 a b ha hb), fun j hj => ?_, h.2.2⟩
  have := h.2.1 j hj
  rw [(hI.veq hrl).P, (hI.veq hrl).H]
  exact this
theorem m_seeL {G G1 : Mem} {l r : Nat} (hl : Lm l) (hr : Rd r) (hrl : r + 12 < l) (hV : Vok (rv G r)) (hI : LI l G G1) {t : Int} (ht : 0 ≤ t ∧ t < 60) : MP M_X4_see [.ref l, .ref r, .int (iI t)] G1 (vv (SeeI G r l t (G r 2).toNat)) := by
  refine (m_see hl hr hrl ((hI.veq hrl).ok hV) ht hI.2).mono ?_
  rintro o g ⟨h1, h2⟩
  refine ⟨h1, ?_⟩
  rw [hI.1 r 2 (by omega) (by omega)] at h2
  exact h2.up hI hrl
theorem m_limL {G G1 : Mem} {l r : Nat} (hl : Lm l) (hr : Rd r) (hrl : r + 12 < l) (hV : Vok (rv G r)) {t : Int} (hS : SeeI G r l t (G r 2).toNat G1) {set : Nat} (hset : set < 64) {x : Int} (hx : 0 ≤ x ∧ x ≤ 47) : MP M_X4_limitIn [.ref l, .ref r, .int (iI (set : Int)), .int (iI x)] G1 (vx (vLim (rv G r) t set x) G1) := by
  have e0 : G1 r 0 = G r 0 := hS.1 r 0 (by omega) (by omega)
  have e1 : G1 r 1 = G r 1 := hS.1 r 1 (by omega) (by omega)
  have e2 : G1 r 2 = G r 2 := hS.1 r 2 (by omega) (by omega)
  have h0 : 0 ≤ G r 0 ∧ G r 0 ≤ 47 := hV.1
  have h1 : 0 ≤ G r 1 ∧ G r 1 ≤ 2 := hV.2.1
  have h2 : 0 ≤ G r 2 ∧ G r 2 ≤ 6 := hV.2.2.1
  have h := m_limitIn0 hl hr hS.2.2 (by rw [e0]; exact h0) hset hx (by rw [e2]; exact h2) (by rw [e1]; exact h1)
  rw [e0, e1, e2, q_lim_c (P' := vP (rv G r) t) (H' := vH (rv G r) t) (fun j hj => hS.2.1 j hj)] at h
  exact h
theorem m_allL {G G1 : Mem} {l r : Nat} (hr : Rd r) (hrl : r + 12 < l) (hV : Vok (rv G r)) (hI : LI l G G1) : MP M_X6_everyChild [.ref r] G1 (vx (vAll (rv G r) : Int) G1) := by
  have e2 : G1 r 2 = G r 2 := hI.1 r 2 (by omega) (by omega)
  have h2 : 0 ≤ G r 2 ∧ G r 2 ≤ 6 := hV.2.2.1
  have h := m_everyChild (G := G1) hr (by rw [e2]; exact h2)
  rw [e2] at h
  exact h
/-! ===== drives by a view ===== -/
def vWhere (V : Mem) : Nat → Int → Int → Int
  | 0, _, x => x
  | d + 1, t, x => vWhere V d (t + 1) (min 47 (x + vLim V t (vAll V) x))
def vEnd (V : Mem) (set : Nat) : Nat → Int → Int → Int
  | 0, _, _ => 61
  | d + 1, t, x => if 47 ≤ x + vLim V t set x then t + 1 else vEnd V set d (t + 1) (x + vLim V t set x)
def vThere (V : Mem) (set : Nat) (a : Int) : Int := vEnd V set (60 - a).toNat a 0
def q_mx (f : Nat → Int) (b : Int) : Nat → Int
  | 0 => b
  | k + 1 => max (q_mx f b k) (f k)
def vFar (V : Mem) (set : Nat) (t far : Int) : Nat → Int := q_mx (fun c => c + vLim V t set c) far
def vSoon (V : Mem) (set : Nat) : Nat → Int → Int → Int
  | 0, _, _ => 61
  | d + 1, t, far => if 47 ≤ vFar V set t far (far + 1).toNat then t + 1 else vSoon V set d (t + 1) (vFar V set t far (far + 1).toNat)
def vSoonest (V : Mem) (set : Nat) (a : Int) : Int := vSoon V set (60 - a).toNat a 0
theorem vEnd_b {V : Mem} {set : Nat} : ∀ (d : Nat) (t x : Int), 0 ≤ t → t + d ≤ 60 → 0 ≤ vEnd V set d t x ∧ vEnd V set d t x ≤ 61
  | 0, t, x, _, _ => by unfold vEnd; omega
  | d + 1, t, x, h1, h2 => by
    have := vEnd_b (V := V) (set := set) d (t + 1) (x + vLim V t set x) (by omega) (by omega)
    unfold vEnd
    split <;> omega
theorem vThere_b {V : Mem} {set : Nat} {a : Int} (ha : 0 ≤ a ∧ a ≤ 60) : 0 ≤ vThere V set a ∧ vThere V set a ≤ 61 := vEnd_b _ _ _ ha.1 (by omega)
theorem vSoon_b {V : Mem} {set : Nat} : ∀ (d : Nat) (t x : Int), 0 ≤ t → t + d ≤ 60 → 0 ≤ vSoon V set d t x ∧ vSoon V set d t x ≤ 61
  | 0, t, x, _, _ => by unfold vSoon; omega
  | d + 1, t, x, h1, h2 => by
    have := vSoon_b (V := V) (set := set) d (t + 1) (vFar V set t x (x + 1).toNat) (by omega) (by omega)
    unfold vSoon
    split <;> omega
theorem vSoonest_b {V : Mem} {set : Nat} {a : Int} (ha : 0 ≤ a ∧ a ≤ 60) : 0 ≤ vSoonest V set a ∧ vSoonest V set a ≤ 61 := vSoon_b _ _ _ ha.1 (by omega)
theorem vFar_lo {V : Mem} (h : Vok V) {set : Nat} {t far : Int} (ht : 0 ≤ t ∧ t ≤ 60) : ∀ c : Nat, (c : Int) + 9 ≤ far → vFar V set t far c = far
  | 0, _ => rfl
  | c + 1, hc => by
    have h1 := vFar_lo h (set := set) (far := far) ht c (by omega)
    have h2 := vLim_b h ht set (c : Int)
    rw [show vFar V set t far (c + 1) = max (vFar V set t far c) ((c : Int) + vLim V t set c) from rfl, h1]
    omega
theorem vFar_b {V : Mem} (h : Vok V) {set : Nat} {t far : Int} (ht : 0 ≤ t ∧ t ≤ 60) (hf : 0 ≤ far ∧ far ≤ 47) : ∀ c : Nat, (c : Int) ≤ far + 1 → far ≤ vFar V set t far c ∧ vFar V set t far c ≤ far + 9
  | 0, _ => by unfold vFar q_mx; omega
  | c + 1, hc => by
    have h1 := vFar_b h (set := set) (far := far) ht hf c (by omega)
    have h2 := vLim_b h ht set (c : Int)
    rw [show vFar V set t far (c + 1) = max (vFar V set t far c) ((c : Int) + vLim V t set c) from rfl]
    omega
theorem lp_cellOfDrive {G : Mem} {r : Nat} (hr : Rd r) (hrl : r + 12 < 65) (hV : Vok (rv G r)) {a m : Int} (hm : m ≤ 60) : ∀ (d : Nat) (t x : Int) (G1 : Mem), t + d = m → 0 ≤ t → 0 ≤ x ∧ x ≤ 47 → LI 65 G G1 → RP M_X1_cellOfDrive 6 [some (.ref 64), some (.ref r), some (.int (iI a)), some (.int (iI m)), some (.int (iI x)), some (.int (iI t))] [] G1 (vi fun v g => vWhere (rv G r) d t x = v ∧ LI 65 G g) := by
  intro d
  induction d with
  | zero =>
    intro t x G1 htd ht0 hx hI
    refine k_iload dX1_cellOfDrive_6 rfl ?_
    refine k_iload_n dX1_cellOfDrive_8 rfl ?_
    refine k_icmp_ge 52 dX1_cellOfDrive_9 (by decide) ⟨by omega, by omega⟩ ⟨by omega, by omega⟩ (fun h9 => ?_) (fun h9 => absurd h9 (by omega))
    refine k_iload dX1_cellOfDrive_52 rfl ?_
    exact k_iret dX1_cellOfDrive_54 rfl ⟨_, rfl, rfl, hI⟩
  | succ d ih =>
    intro t x G1 htd ht0 hx hI
    refine k_iload dX1_cellOfDrive_6 rfl ?_
    refine k_iload_n dX1_cellOfDrive_8 rfl ?_
    refine k_icmp_ge 52 dX1_cellOfDrive_9 (by decide) ⟨by omega, by omega⟩ ⟨by omega, by omega⟩ (fun h9 => absurd h9 (by omega)) (fun h9 => ?_)
    refine k_aload_n dX1_cellOfDrive_12 rfl ?_
    refine k_getR dX1_cellOfDrive_13 f_X1_12 (Nat.le_of_ble_eq_true rfl) sh_o64 (fun _ => rfl) ?_
    refine k_aload_n dX1_cellOfDrive_16 rfl ?_
    refine k_iload dX1_cellOfDrive_17 rfl ?_
    refine k_callVv [.ref _, .int (iI _)] dX1_cellOfDrive_19 s_X1_cellOfDrive_22 rfl (m_seeL lm65 hr hrl hV hI (by omega)) rfl (Nat.le_of_ble_eq_true rfl) (Lm.o lm65) ⟨_, rfl, rfl⟩ (Nat.le_of_ble_eq_true rfl) ?_
    rintro G2 hS
    refine k_bipush dX1_cellOfDrive_22 (by decide) ?_
    refine k_iload dX1_cellOfDrive_24 rfl ?_
    refine k_aload_n dX1_cellOfDrive_26 rfl ?_
    refine k_getR dX1_cellOfDrive_27 f_X1_12 (Nat.le_of_ble_eq_true rfl) sh_o64 (fun _ => rfl) ?_
    refine k_aload_n dX1_cellOfDrive_30 rfl ?_
    refine k_aload_n dX1_cellOfDrive_31 rfl ?_
    refine k_callVi [] dX1_cellOfDrive_32 s_X1_cellOfDrive_26 rfl (m_allL hr hrl hV hS.li) rfl (Rd.l0 hr) (Rd.o hr) ⟨_, rfl, rfl⟩ (Nat.le_of_ble_eq_true rfl) ?_
    rintro _ _ ⟨rfl, rfl⟩
    refine k_iload dX1_cellOfDrive_35 rfl ?_
    refine k_callVi [.ref _, .int (iI _), .int (iI _)] dX1_cellOfDrive_37 s_X1_cellOfDrive_32 rfl (m_limL lm65 hr hrl hV hS (vAll_lt hV) (by omega)) rfl (Nat.le_of_ble_eq_true rfl) (Lm.o lm65) ⟨_, rfl, rfl⟩ (Nat.le_of_ble_eq_true rfl) ?_
    rintro _ _ ⟨rfl, rfl⟩
    have bl := vLim_b hV (t := t) (by omega) (vAll (rv G r)) x
    refine k_iadd dX1_cellOfDrive_40 ?_
    refine k_callSi [.int (iI _), .int (iI _)] dX1_cellOfDrive_41 s_X1_cellOfDrive_36 rfl (m_min ⟨by omega, by omega⟩ ⟨by omega, by omega⟩) rfl (Nat.le_of_ble_eq_true rfl) ?_
    rintro _ _ ⟨rfl, rfl⟩
    refine k_istore (L' := [_, _, _, _, _, _]) dX1_cellOfDrive_44 (Nat.le_of_ble_eq_true rfl) rfl ?_
    refine k_iinc (L' := [_, _, _, _, _, _]) dX1_cellOfDrive_46 rfl (Nat.le_of_ble_eq_true rfl) rfl ?_
    refine k_goto 6 dX1_cellOfDrive_49 (by decide) ?_
    exact ih _ _ _ (by omega) (by omega) (by omega) hS.li
theorem m_cellOfDrive {G G1 : Mem} {r : Nat} (hr : Rd r) (hrl : r + 12 < 65) (hV : Vok (rv G r)) (hI : LI 65 G G1) {a m : Int} (ha : 0 ≤ a ∧ a ≤ m) (hm : m ≤ 60) : MP M_X1_cellOfDrive [.ref 64, .ref r, .int (iI a), .int (iI m)] G1 (vi fun v g => vWhere (rv G r) (m - a).toNat a 0 = v ∧ LI 65 G g) := by
  refine MP.of [some (.ref 64), some (.ref r), some (.int (iI a)), some (.int (iI m)), none, none] (plainFor_of_name pn_X1) (Nat.le_of_ble_eq_true rfl) rfl ?_
  refine k_iconst dX1_cellOfDrive_0 ?_
  refine k_istore (L' := [_, _, _, _, _, _]) dX1_cellOfDrive_1 (Nat.le_of_ble_eq_true rfl) rfl ?_
  refine k_iload_n dX1_cellOfDrive_3 rfl ?_
  refine k_istore (L' := [_, _, _, _, _, _]) dX1_cellOfDrive_4 (Nat.le_of_ble_eq_true rfl) rfl ?_
  exact lp_cellOfDrive hr hrl hV hm _ _ _ _ (by omega) ha.1 (by omega) hI
theorem lp_endOfDrive {G : Mem} {r : Nat} (hr : Rd r) (hrl : r + 12 < 65) (hV : Vok (rv G r)) {set : Nat} (hset : set < 64) {a : Int} : ∀ (d : Nat) (t x : Int) (G1 : Mem), t + d = 60 → 0 ≤ t → 0 ≤ x ∧ x < 47 → LI 65 G G1 → RP M_X1_endOfDrive 6 [some (.ref 64), some (.ref r), some (.int (iI (set : Int))), some (.int (iI a)), some (.int (iI x)), some (.int (iI t))] [] G1 (vi fun v g => vEnd (rv G r) set d t x = v ∧ LI 65 G g) := by
  intro d
  induction d with
  | zero =>
    intro t x G1 htd ht0 hx hI
    refine k_iload dX1_endOfDrive_6 rfl ?_
    refine k_bipush dX1_endOfDrive_8 (by decide) ?_
    refine k_icmp_ge 57 dX1_endOfDrive_10 (by decide) ⟨by omega, by omega⟩ ⟨by decide, by decide⟩ (fun h10 => ?_) (fun h10 => absurd h10 (by omega))
    refine k_bipush dX1_endOfDrive_57 (by decide) ?_
    exact k_iret dX1_endOfDrive_59 rfl ⟨_, rfl, rfl, hI⟩
  | succ d ih =>
    intro t x G1 htd ht0 hx hI
    have e := vEnd.eq_2 (rv G r) set t x d
    refine k_iload dX1_endOfDrive_6 rfl ?_
    refine k_bipush dX1_endOfDrive_8 (by decide) ?_
    refine k_icmp_ge 57 dX1_endOfDrive_10 (by decide) ⟨by omega, by omega⟩ ⟨by decide, by decide⟩ (fun h10 => absurd h10 (by omega)) (fun h10 => ?_)
    refine k_aload_n dX1_endOfDrive_13 rfl ?_
    refine k_getR dX1_endOfDrive_14 f_X1_12 (Nat.le_of_ble_eq_true rfl) sh_o64 (fun _ => rfl) ?_
    refine k_aload_n dX1_endOfDrive_17 rfl ?_
    refine k_iload dX1_endOfDrive_18 rfl ?_
    refine k_callVv [.ref _, .int (iI _)] dX1_endOfDrive_20 s_X1_endOfDrive_22 rfl (m_seeL lm65 hr hrl hV hI (by omega)) rfl (Nat.le_of_ble_eq_true rfl) (Lm.o lm65) ⟨_, rfl, rfl⟩ (Nat.le_of_ble_eq_true rfl) ?_
    rintro G2 hS
    refine k_iload dX1_endOfDrive_23 rfl ?_
    refine k_aload_n dX1_endOfDrive_25 rfl ?_
    refine k_getR dX1_endOfDrive_26 f_X1_12 (Nat.le_of_ble_eq_true rfl) sh_o64 (fun _ => rfl) ?_
    refine k_aload_n dX1_endOfDrive_29 rfl ?_
    refine k_iload_n dX1_endOfDrive_30 rfl ?_
    refine k_iload dX1_endOfDrive_31 rfl ?_
    refine k_callVi [.ref _, .int (iI _), .int (iI _)] dX1_endOfDrive_33 s_X1_endOfDrive_32 rfl (m_limL lm65 hr hrl hV hS hset (by omega)) rfl (Nat.le_of_ble_eq_true rfl) (Lm.o lm65) ⟨_, rfl, rfl⟩ (Nat.le_of_ble_eq_true rfl) ?_
    rintro _ _ ⟨rfl, rfl⟩
    have bl := vLim_b hV (t := t) (by omega) set x
    refine k_iadd dX1_endOfDrive_36 ?_
    refine k_istore (L' := [_, _, _, _, _, _]) dX1_endOfDrive_37 (Nat.le_of_ble_eq_true rfl) rfl ?_
    refine k_iload dX1_endOfDrive_39 rfl ?_
    refine k_bipush dX1_endOfDrive_41 (by decide) ?_
    refine k_icmp_lt 51 dX1_endOfDrive_43 (by decide) ⟨by omega, by omega⟩ ⟨by decide, by decide⟩ (fun h43 => ?_) (fun h43 => ?_)
    · skip
      refine k_iinc (L' := [_, _, _, _, _, _]) dX1_endOfDrive_51 rfl (Nat.le_of_ble_eq_true rfl) rfl ?_
      refine k_goto 6 dX1_endOfDrive_54 (by decide) ?_
      rw [if_neg (by omega)] at e
      rw [e]
      exact ih _ _ _ (by omega) (by omega) (by omega) hS.li
    · skip
      refine k_iload dX1_endOfDrive_46 rfl ?_
      refine k_iconst dX1_endOfDrive_48 ?_
      refine k_iadd dX1_endOfDrive_49 ?_
      exact k_iret dX1_endOfDrive_50 rfl ⟨_, rfl, by rw [e, if_pos (by omega)], hS.li⟩
theorem m_endOfDrive {G G1 : Mem} {r : Nat} (hr : Rd r) (hrl : r + 12 < 65) (hV : Vok (rv G r)) (hI : LI 65 G G1) {set : Nat} (hset : set < 64) {a : Int} (ha : 0 ≤ a ∧ a ≤ 60) : MP M_X1_endOfDrive [.ref 64, .ref r, .int (iI (set : Int)), .int (iI a)] G1 (vi fun v g => vThere (rv G r) set a = v ∧ LI 65 G g) := by
  refine MP.of [some (.ref 64), some (.ref r), some (.int (iI (set : Int))), some (.int (iI a)), none, none] (plainFor_of_name pn_X1) (Nat.le_of_ble_eq_true rfl) rfl ?_
  refine k_iconst dX1_endOfDrive_0 ?_
  refine k_istore (L' := [_, _, _, _, _, _]) dX1_endOfDrive_1 (Nat.le_of_ble_eq_true rfl) rfl ?_
  refine k_iload_n dX1_endOfDrive_3 rfl ?_
  refine k_istore (L' := [_, _, _, _, _, _]) dX1_endOfDrive_4 (Nat.le_of_ble_eq_true rfl) rfl ?_
  exact lp_endOfDrive hr hrl hV hset _ _ _ _ (by omega) ha.1 (by omega) hI
theorem lp_soonIn {G : Mem} {r : Nat} (hr : Rd r) (hrl : r + 12 < 65) (hV : Vok (rv G r)) {set : Nat} (hset : set < 64) {a t far : Int} (ht : 0 ≤ t ∧ t < 60) (hf : 0 ≤ far ∧ far < 47) {G1 : Mem} (hS : SeeI G r 65 t (G r 2).toNat G1) {Post : Option Value → Mem → Prop} (hk : ∀ c : Int, RP M_X1_soonestEnd 72 [some (.ref 64), some (.ref r), some (.int (iI (set : Int))), some (.int (iI a)), some (.int (iI far)), some (.int (iI t)), some (.int (iI (vFar (rv G r) set t far (far + 1).toNat))), some (.int (iI c))] [] G1 Post) : ∀ c : Nat, c ≤ (far + 1).toNat → RP M_X1_soonestEnd 38 [some (.ref 64), some (.ref r), some (.int (iI (set : Int))), some (.int (iI a)), some (.int (iI far)), some (.int (iI t)), some (.int (iI (vFar (rv G r) set t far c))), some (.int (iI (c : Int)))] [] G1 Post := by
  refine cnt ?_ (fun c hc ih => ?_)
  · skip
    refine k_iload dX1_soonestEnd_38 rfl ?_
    refine k_iload dX1_soonestEnd_40 rfl ?_
    refine k_icmp_gt 72 dX1_soonestEnd_42 (by decide) ⟨by omega, by omega⟩ ⟨by omega, by omega⟩ (fun h42 => ?_) (fun h42 => absurd h42 (by omega))
    exact hk _
  · skip
    have bf := vFar_b hV (set := set) (t := t) (far := far) (by omega) (by omega) c (by omega)
    refine k_iload dX1_soonestEnd_38 rfl ?_
    refine k_iload dX1_soonestEnd_40 rfl ?_
    refine k_icmp_gt 72 dX1_soonestEnd_42 (by decide) ⟨by omega, by omega⟩ ⟨by omega, by omega⟩ (fun h42 => absurd h42 (by omega)) (fun h42 => ?_)
    refine k_iload dX1_soonestEnd_45 rfl ?_
    refine k_iload dX1_soonestEnd_47 rfl ?_
    refine k_aload_n dX1_soonestEnd_49 rfl ?_
    refine k_getR dX1_soonestEnd_50 f_X1_12 (Nat.le_of_ble_eq_true rfl) sh_o64 (fun _ => rfl) ?_
    refine k_aload_n dX1_soonestEnd_53 rfl ?_
    refine k_iload_n dX1_soonestEnd_54 rfl ?_
    refine k_iload dX1_soonestEnd_55 rfl ?_
    refine k_callVi [.ref _, .int (iI _), .int (iI _)] dX1_soonestEnd_57 s_X1_soonestEnd_32 rfl (m_limL lm65 hr hrl hV hS hset (by omega)) rfl (Nat.le_of_ble_eq_true rfl) (Lm.o lm65) ⟨_, rfl, rfl⟩ (Nat.le_of_ble_eq_true rfl) ?_
    rintro _ _ ⟨rfl, rfl⟩
    have bl := vLim_b hV (t := t) (by omega) set (c : Int)
    refine k_iadd dX1_soonestEnd_60 ?_
    refine k_callSi [.int (iI _), .int (iI _)] dX1_soonestEnd_61 s_X1_soonestEnd_42 rfl (m_max ⟨by omega, by omega⟩ ⟨by omega, by omega⟩) rfl (Nat.le_of_ble_eq_true rfl) ?_
    rintro _ _ ⟨rfl, rfl⟩
    refine k_istore (L' := [_, _, _, _, _, _, _, _]) dX1_soonestEnd_64 (Nat.le_of_ble_eq_true rfl) rfl ?_
    refine k_iinc (L' := [_, _, _, _, _, _, _, _]) dX1_soonestEnd_66 rfl (Nat.le_of_ble_eq_true rfl) rfl ?_
    refine k_goto 38 dX1_soonestEnd_69 (by decide) ?_
    exact ih
theorem RP_l6 {M : MI} {pc : Nat} {v0 v1 v2 v3 v4 v5 v7 : Option Value} {st : List Value} {G : Mem} {Post : Option Value → Mem → Prop} {x y : Int} (e : x = y) (kk : RP M pc [v0, v1, v2, v3, v4, v5, some (.int (iI y)), v7] st G Post) : RP M pc [v0, v1, v2, v3, v4, v5, some (.int (iI x)), v7] st G Post := e ▸ kk
theorem lp_soonestEnd {G : Mem} {r : Nat} (hr : Rd r) (hrl : r + 12 < 65) (hV : Vok (rv G r)) {set : Nat} (hset : set < 64) {a : Int} : ∀ (d : Nat) (t far : Int) (G1 : Mem) (j6 j7 : Option Value), t + d = 60 → 0 ≤ t → 0 ≤ far ∧ far < 47 → LI 65 G G1 → RP M_X1_soonestEnd 6 [some (.ref 64), some (.ref r), some (.int (iI (set : Int))), some (.int (iI a)), some (.int (iI far)), some (.int (iI t)), j6, j7] [] G1 (vi fun v g => vSoon (rv G r) set d t far = v ∧ LI 65 G g) := by
  intro d
  induction d with
  | zero =>
    intro t far G1 j6 j7 htd ht0 hx hI
    refine k_iload dX1_soonestEnd_6 rfl ?_
    refine k_bipush dX1_soonestEnd_8 (by decide) ?_
    refine k_icmp_ge 94 dX1_soonestEnd_10 (by decide) ⟨by omega, by omega⟩ ⟨by decide, by decide⟩ (fun h10 => ?_) (fun h10 => absurd h10 (by omega))
    refine k_bipush dX1_soonestEnd_94 (by decide) ?_
    exact k_iret dX1_soonestEnd_96 rfl ⟨_, rfl, rfl, hI⟩
  | succ d ih =>
    intro t far G1 j6 j7 htd ht0 hx hI
    have e := vSoon.eq_2 (rv G r) set t far d
    have bf := vFar_b hV (set := set) (t := t) (far := far) (by omega) (by omega) (far + 1).toNat (by omega)
    refine k_iload dX1_soonestEnd_6 rfl ?_
    refine k_bipush dX1_soonestEnd_8 (by decide) ?_
    refine k_icmp_ge 94 dX1_soonestEnd_10 (by decide) ⟨by omega, by omega⟩ ⟨by decide, by decide⟩ (fun h10 => absurd h10 (by omega)) (fun h10 => ?_)
    refine k_aload_n dX1_soonestEnd_13 rfl ?_
    refine k_getR dX1_soonestEnd_14 f_X1_12 (Nat.le_of_ble_eq_true rfl) sh_o64 (fun _ => rfl) ?_
    refine k_aload_n dX1_soonestEnd_17 rfl ?_
    refine k_iload dX1_soonestEnd_18 rfl ?_
    refine k_callVv [.ref _, .int (iI _)] dX1_soonestEnd_20 s_X1_soonestEnd_22 rfl (m_seeL lm65 hr hrl hV hI (by omega)) rfl (Nat.le_of_ble_eq_true rfl) (Lm.o lm65) ⟨_, rfl, rfl⟩ (Nat.le_of_ble_eq_true rfl) ?_
    rintro G2 hS
    refine k_iload dX1_soonestEnd_23 rfl ?_
    refine k_istore (L' := [_, _, _, _, _, _, _, _]) dX1_soonestEnd_25 (Nat.le_of_ble_eq_true rfl) rfl ?_
    refine k_iconst dX1_soonestEnd_27 ?_
    refine k_iload dX1_soonestEnd_28 rfl ?_
    refine k_bipush dX1_soonestEnd_30 (by decide) ?_
    refine k_isub dX1_soonestEnd_32 ?_
    refine k_callSi [.int (iI _), .int (iI _)] dX1_soonestEnd_33 s_X1_soonestEnd_42 rfl (m_max ⟨by omega, by omega⟩ ⟨by omega, by omega⟩) rfl (Nat.le_of_ble_eq_true rfl) ?_
    rintro _ _ ⟨rfl, rfl⟩
    refine k_istore (L' := [_, _, _, _, _, _, _, _]) dX1_soonestEnd_36 (Nat.le_of_ble_eq_true rfl) rfl ?_
    have ec : max 0 (far - 9) = ((far - 9).toNat : Int) := by omega
    rw [ec]
    have el : far = vFar (rv G r) set t far (far - 9).toNat := by
      rcases Int.le_total 9 far with h9 | h9
      · exact (vFar_lo hV (by omega) _ (by omega)).symm
      · rw [show (far - 9).toNat = 0 by omega]; rfl
    refine RP_l6 el ?_
    refine lp_soonIn hr hrl hV hset (by omega) hx hS (fun c => ?_) _ (by omega)
    refine k_iload dX1_soonestEnd_72 rfl ?_
    refine k_bipush dX1_soonestEnd_74 (by decide) ?_
    refine k_icmp_lt 84 dX1_soonestEnd_76 (by decide) ⟨by omega, by omega⟩ ⟨by decide, by decide⟩ (fun h76 => ?_) (fun h76 => ?_)
    · skip
      refine k_iload dX1_soonestEnd_84 rfl ?_
      refine k_istore (L' := [_, _, _, _, _, _, _, _]) dX1_soonestEnd_86 (Nat.le_of_ble_eq_true rfl) rfl ?_
      refine k_iinc (L' := [_, _, _, _, _, _, _, _]) dX1_soonestEnd_88 rfl (Nat.le_of_ble_eq_true rfl) rfl ?_
      refine k_goto 6 dX1_soonestEnd_91 (by decide) ?_
      rw [if_neg (by omega)] at e
      rw [e]
      exact ih _ _ _ _ _ (by omega) (by omega) (by omega) hS.li
    · skip
      refine k_iload dX1_soonestEnd_79 rfl ?_
      refine k_iconst dX1_soonestEnd_81 ?_
      refine k_iadd dX1_soonestEnd_82 ?_
      exact k_iret dX1_soonestEnd_83 rfl ⟨_, rfl, by rw [e, if_pos (by omega)], hS.li⟩
theorem m_soonestEnd {G G1 : Mem} {r : Nat} (hr : Rd r) (hrl : r + 12 < 65) (hV : Vok (rv G r)) (hI : LI 65 G G1) {set : Nat} (hset : set < 64) {a : Int} (ha : 0 ≤ a ∧ a ≤ 60) : MP M_X1_soonestEnd [.ref 64, .ref r, .int (iI (set : Int)), .int (iI a)] G1 (vi fun v g => vSoonest (rv G r) set a = v ∧ LI 65 G g) := by
  refine MP.of [some (.ref 64), some (.ref r), some (.int (iI (set : Int))), some (.int (iI a)), none, none, none, none] (plainFor_of_name pn_X1) (Nat.le_of_ble_eq_true rfl) rfl ?_
  refine k_iconst dX1_soonestEnd_0 ?_
  refine k_istore (L' := [_, _, _, _, _, _, _, _]) dX1_soonestEnd_1 (Nat.le_of_ble_eq_true rfl) rfl ?_
  refine k_iload_n dX1_soonestEnd_3 rfl ?_
  refine k_istore (L' := [_, _, _, _, _, _, _, _]) dX1_soonestEnd_4 (Nat.le_of_ble_eq_true rfl) rfl ?_
  exact lp_soonestEnd hr hrl hV hset _ _ _ _ _ _ (by omega) ha.1 (by omega) hI
/-- the best start: from t on, d minutes, by what was best -/
def vStart (V : Mem) : Nat → Int → Int → Int → Int
  | 0, _, best, _ => best
  | d + 1, t, best, en => if vThere V (vAll V) t ≤ en then vStart V d (t + 1) t (vThere V (vAll V) t) else vStart V d (t + 1) best en
theorem lp_bestStart {G : Mem} {r : Nat} (hr : Rd r) (hrl : r + 12 < 65) (hV : Vok (rv G r)) {a : Int} : ∀ (d : Nat) (t best en : Int) (G1 : Mem) (j6 : Option Value), t + d = 60 → 0 ≤ t → 0 ≤ en ∧ en ≤ 60 → LI 65 G G1 → RP M_X1_bestStart 9 [some (.ref 64), some (.ref r), some (.int (iI a)), some (.int (iI best)), some (.int (iI en)), some (.int (iI t)), j6] [] G1 (vi fun v g => vStart (rv G r) d t best en = v ∧ LI 65 G g) := by
  intro d
  induction d with
  | zero =>
    intro t best en G1 j6 htd ht0 hx hI
    refine k_iload dX1_bestStart_9 rfl ?_
    refine k_bipush dX1_bestStart_11 (by decide) ?_
    refine k_icmp_ge 49 dX1_bestStart_13 (by decide) ⟨by omega, by omega⟩ ⟨by decide, by decide⟩ (fun h13 => ?_) (fun h13 => absurd h13 (by omega))
    refine k_iload_n dX1_bestStart_49 rfl ?_
    exact k_iret dX1_bestStart_50 rfl ⟨_, rfl, rfl, hI⟩
  | succ d ih =>
    intro t best en G1 j6 htd ht0 hx hI
    have e := vStart.eq_2 (rv G r) t best en d
    have bt := vThere_b (V := rv G r) (set := vAll (rv G r)) (a := t) (by omega)
    refine k_iload dX1_bestStart_9 rfl ?_
    refine k_bipush dX1_bestStart_11 (by decide) ?_
    refine k_icmp_ge 49 dX1_bestStart_13 (by decide) ⟨by omega, by omega⟩ ⟨by decide, by decide⟩ (fun h13 => absurd h13 (by omega)) (fun h13 => ?_)
    refine k_aload_n dX1_bestStart_16 rfl ?_
    refine k_aload_n dX1_bestStart_17 rfl ?_
    refine k_aload_n dX1_bestStart_18 rfl ?_
    refine k_callVi [] dX1_bestStart_19 s_X1_bestStart_26 rfl (m_allL hr hrl hV hI) rfl (Rd.l0 hr) (Rd.o hr) ⟨_, rfl, rfl⟩ (Nat.le_of_ble_eq_true rfl) ?_
    rintro _ _ ⟨rfl, rfl⟩
    refine k_iload dX1_bestStart_22 rfl ?_
    refine k_callVi [.ref _, .int (iI _), .int (iI _)] dX1_bestStart_24 s_X1_bestStart_45 rfl (m_endOfDrive hr hrl hV hI (vAll_lt hV) (by omega)) rfl (Nat.le_of_ble_eq_true rfl) sh_o64 ⟨_, rfl, rfl⟩ (Nat.le_of_ble_eq_true rfl) ?_
    rintro _ G2 ⟨rfl, hI2⟩
    refine k_istore (L' := [_, _, _, _, _, _, _]) dX1_bestStart_27 (Nat.le_of_ble_eq_true rfl) rfl ?_
    refine k_iload dX1_bestStart_29 rfl ?_
    refine k_iload dX1_bestStart_31 rfl ?_
    refine k_icmp_gt 43 dX1_bestStart_33 (by decide) ⟨by omega, by omega⟩ ⟨by omega, by omega⟩ (fun h33 => ?_) (fun h33 => ?_)
    · skip
      refine k_iinc (L' := [_, _, _, _, _, _, _]) dX1_bestStart_43 rfl (Nat.le_of_ble_eq_true rfl) rfl ?_
      refine k_goto 9 dX1_bestStart_46 (by decide) ?_
      first | (rw [if_pos (by omega)] at e; rw [e]; exact ih _ _ _ _ _ (by omega) (by omega) (by omega) hI2) | (rw [if_neg (by omega)] at e; rw [e]; exact ih _ _ _ _ _ (by omega) (by omega) (by omega) hI2)
    · skip
      refine k_iload dX1_bestStart_36 rfl ?_
      refine k_istore_n (L' := [_, _, _, _, _, _, _]) dX1_bestStart_38 (Nat.le_of_ble_eq_true rfl) rfl ?_
      refine k_iload dX1_bestStart_39 rfl ?_
      refine k_istore (L' := [_, _, _, _, _, _, _]) dX1_bestStart_41 (Nat.le_of_ble_eq_true rfl) rfl ?_
      refine k_iinc (L' := [_, _, _, _, _, _, _]) dX1_bestStart_43 rfl (Nat.le_of_ble_eq_true rfl) rfl ?_
      refine k_goto 9 dX1_bestStart_46 (by decide) ?_
      first | (rw [if_pos (by omega)] at e; rw [e]; exact ih _ _ _ _ _ (by omega) (by omega) (by omega) hI2) | (rw [if_neg (by omega)] at e; rw [e]; exact ih _ _ _ _ _ (by omega) (by omega) (by omega) hI2)
theorem m_bestStart {G G1 : Mem} {r : Nat} (hr : Rd r) (hrl : r + 12 < 65) (hV : Vok (rv G r)) (hI : LI 65 G G1) {a : Int} (ha : 0 ≤ a ∧ a ≤ 60) : MP M_X1_bestStart [.ref 64, .ref r, .int (iI a)] G1 (vi fun v g => vStart (rv G r) (60 - a).toNat a (-1) 60 = v ∧ LI 65 G g) := by
  refine MP.of [some (.ref 64), some (.ref r), some (.int (iI a)), none, none, none, none] (plainFor_of_name pn_X1) (Nat.le_of_ble_eq_true rfl) rfl ?_
  refine k_iconst dX1_bestStart_0 ?_
  refine k_istore_n (L' := [_, _, _, _, _, _, _]) dX1_bestStart_1 (Nat.le_of_ble_eq_true rfl) rfl ?_
  refine k_bipush dX1_bestStart_2 (by decide) ?_
  refine k_istore (L' := [_, _, _, _, _, _, _]) dX1_bestStart_4 (Nat.le_of_ble_eq_true rfl) rfl ?_
  refine k_iload_n dX1_bestStart_6 rfl ?_
  refine k_istore (L' := [_, _, _, _, _, _, _]) dX1_bestStart_7 (Nat.le_of_ble_eq_true rfl) rfl ?_
  exact lp_bestStart hr hrl hV _ _ _ _ _ _ (by omega) ha.1 (by omega) hI
