/-! ===== PURE: what the answers are, by whole numbers ===== -/
theorem cnt {P : Nat → Prop} {n : Nat} (hn : P n) (h : ∀ i, i < n → P (i + 1) → P i) : ∀ i, i ≤ n → P i := by
  intro i hi
  obtain ⟨d, hd⟩ : ∃ d, n = i + d := ⟨n - i, by omega⟩
  induction d generalizing i with
  | zero => rw [show i = n by omega]; exact hn
  | succ d ih => exact h i (by omega) (ih (i + 1) (by omega) (by omega))
theorem mulb {s t : Int} (hs : 0 ≤ s ∧ s ≤ 3) (ht : 0 ≤ t ∧ t ≤ 60) : 0 ≤ s * t ∧ s * t ≤ 180 := by
  rcases (show s = 0 ∨ s = 1 ∨ s = 2 ∨ s = 3 by omega) with h | h | h | h <;> subst h <;> omega
def q_pos (k c s t : Int) : Int := if k = 2 ∨ k = 5 then (if t % 2 = 0 then c else min 47 (c + s)) else min 47 (c + s * t)
def q_hgh (k h t : Int) : Int := if k = 1 then min 9 (h + 2) else if k = 3 then max 1 (min 9 (h + 2) / 2) else if k = 4 then min 9 (h + t / 15) else if k = 5 then (if t < 20 then h else 0) else h
def q_hi (k h b t : Int) : Int := if t < b then q_hgh k h t else 0
theorem q_pos_b {k c s t : Int} (hc : 0 ≤ c ∧ c ≤ 47) (hs : 0 ≤ s ∧ s ≤ 3) (ht : 0 ≤ t ∧ t ≤ 60) : 0 ≤ q_pos k c s t ∧ q_pos k c s t ≤ 47 := by
  have := mulb hs ht
  unfold q_pos
  split
  · split <;> omega
  · omega
theorem q_hi_b {k h b t : Int} (hh : 0 ≤ h ∧ h ≤ 9) (ht : 0 ≤ t ∧ t ≤ 60) : 0 ≤ q_hi k h b t ∧ q_hi k h b t ≤ 9 := by
  unfold q_hi q_hgh
  repeat' split
  all_goals omega
def q_d (a b : Int) : Int := if 0 ≤ a - b then a - b else -(a - b)
def q_in (set i : Nat) : Bool := decide (set / 2 ^ i % 2 = 1)
def q_seen (sg : Int) (P H : Nat → Int) (set : Nat) (x : Int) (i : Nat) : Bool := q_in set i && (decide (0 < H i) && decide (q_d (P i) x ≤ sg))
def q_rk (P H : Nat → Int) (x : Int) (i : Nat) : Int := (q_d (P i) x * 16 + H i) * 8 + i
def q_nb (sg : Int) (P H : Nat → Int) (set : Nat) (x rk : Int) : Nat → Int
  | 0 => 1048576
  | i + 1 => if q_seen sg P H set x i = true ∧ rk < q_rk P H x i ∧ q_rk P H x i < q_nb sg P H set x rk i then q_rk P H x i else q_nb sg P H set x rk i
def q_low (sg : Int) (P H : Nat → Int) (set : Nat) (x : Int) : Nat → Int
  | 0 => 9
  | i + 1 => if q_seen sg P H set x i = true then min (q_low sg P H set x i) (H i) else q_low sg P H set x i
def q_lim (law sg : Int) (n : Nat) (P H : Nat → Int) (set : Nat) (x : Int) : Int :=
  if law = 1 then q_low sg P H set x n
  else if q_nb sg P H set x (-1) n = 1048576 then 9
  else if law = 0 then q_nb sg P H set x (-1) n / 8 % 16
  else if q_nb sg P H set x (q_nb sg P H set x (-1) n) n = 1048576 then q_nb sg P H set x (-1) n / 8 % 16
  else (q_nb sg P H set x (-1) n / 8 % 16 + q_nb sg P H set x (q_nb sg P H set x (-1) n) n / 8 % 16) / 2
/-- bounds of positions and heights -/
def q_ok (P H : Nat → Int) : Prop := ∀ j, 0 ≤ P j ∧ P j ≤ 47 ∧ 0 ≤ H j ∧ H j ≤ 9
theorem bI_t {p : Prop} [Decidable p] (h : p) : bI p = 1 := if_pos h
theorem bI_f {p : Prop} [Decidable p] (h : ¬ p) : bI p = 0 := if_neg h
theorem q_seen_iff {sg : Int} {P H : Nat → Int} {set : Nat} {x : Int} {i : Nat} : q_seen sg P H set x i = true ↔ set / 2 ^ i % 2 = 1 ∧ 0 < H i ∧ q_d (P i) x ≤ sg := by
  unfold q_seen q_in
  simp only [Bool.and_eq_true, decide_eq_true_eq]
theorem q_d_b {a b : Int} (ha : 0 ≤ a ∧ a ≤ 47) (hb : 0 ≤ b ∧ b ≤ 47) : 0 ≤ q_d a b ∧ q_d a b ≤ 47 := by unfold q_d; split <;> omega
theorem q_rk_b {P H : Nat → Int} (h : q_ok P H) {x : Int} (hx : 0 ≤ x ∧ x ≤ 47) (i : Nat) (hi : i < 6) : 0 ≤ q_rk P H x i ∧ q_rk P H x i < 10000 := by
  have := h i
  have := q_d_b (a := P i) (b := x) (by omega) hx
  unfold q_rk
  omega
theorem q_nb_b {sg : Int} {P H : Nat → Int} {set : Nat} {x rk : Int} (h : q_ok P H) (hx : 0 ≤ x ∧ x ≤ 47) : ∀ i, i ≤ 6 → 0 ≤ q_nb sg P H set x rk i ∧ (q_nb sg P H set x rk i < 10000 ∨ q_nb sg P H set x rk i = 1048576)
  | 0, _ => by unfold q_nb; omega
  | i + 1, hi => by
    have := q_nb_b h hx (sg := sg) (set := set) (rk := rk) i (by omega)
    have := q_rk_b h hx i (by omega)
    unfold q_nb
    split <;> omega
theorem q_low_b {sg : Int} {P H : Nat → Int} {set : Nat} {x : Int} (h : q_ok P H) : ∀ i, 0 ≤ q_low sg P H set x i ∧ q_low sg P H set x i ≤ 9
  | 0 => by unfold q_low; omega
  | i + 1 => by
    have := q_low_b h (sg := sg) (set := set) (x := x) i
    have := h i
    unfold q_low
    split <;> omega
