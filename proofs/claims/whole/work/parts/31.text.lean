/-! ===== reading a text ===== -/
def q_run (f : Nat → Bool) : Nat → Nat → Nat
  | 0, i => i
  | d + 1, i => if f i = true then q_run f d (i + 1) else i
theorem q_run_b {f : Nat → Bool} : ∀ d i, i ≤ q_run f d i ∧ q_run f d i ≤ i + d
  | 0, i => by unfold q_run; omega
  | d + 1, i => by
    have := q_run_b (f := f) d (i + 1)
    unfold q_run
    split <;> omega
theorem q_run_in {f : Nat → Bool} : ∀ d i j, i ≤ j → j < q_run f d i → f j = true
  | 0, i, j, h1, h2 => by unfold q_run at h2; omega
  | d + 1, i, j, h1, h2 => by
    unfold q_run at h2
    split at h2
    · next h3 =>
      by_cases e : j = i
      · subst e; exact h3
      · exact q_run_in d (i + 1) j (by omega) h2
    · omega
theorem q_run_at {f : Nat → Bool} : ∀ d i, q_run f d i < i + d → f (q_run f d i) = false
  | 0, i, h => by unfold q_run at h; omega
  | d + 1, i, h => by
    unfold q_run at h ⊢
    split
    · next h3 =>
      rw [if_pos h3] at h
      exact q_run_at d (i + 1) (by omega)
    · next h3 => simpa using h3
def tB (T : Nat → Int) (j : Nat) : Bool := decide (T j = 32)
def tR (T : Nat → Int) (a b : Int) (j : Nat) : Bool := decide (a ≤ T j ∧ T j ≤ b)
def tSk (T : Nat → Int) (L p : Nat) : Nat := q_run (tB T) (L - p) p
def tEn (T : Nat → Int) (L : Nat) (a b : Int) (p : Nat) : Nat := q_run (tR T a b) (L - p) p
theorem tSk_b {T : Nat → Int} {L p : Nat} (h : p ≤ L) : p ≤ tSk T L p ∧ tSk T L p ≤ L := by
  have := q_run_b (f := tB T) (L - p) p
  unfold tSk
  omega
theorem tEn_b {T : Nat → Int} {L : Nat} {a b : Int} {p : Nat} (h : p ≤ L) : p ≤ tEn T L a b p ∧ tEn T L a b p ≤ L := by
  have := q_run_b (f := tR T a b) (L - p) p
  unfold tEn
  omega
def wEq (T : Nat → Int) (u q : Nat) : Nat → Bool
  | 0 => true
  | i + 1 => wEq T u q i && (T (q + i) == (q_ch u i : Int))
theorem wEq_n {T : Nat → Int} {u q i n : Nat} (h : ¬ T (q + i) = (q_ch u i : Int)) (hi : i < n) : wEq T u q n = false := by
  obtain ⟨d, rfl⟩ : ∃ d, n = i + 1 + d := ⟨n - (i + 1), by omega⟩
  clear hi
  induction d with
  | zero => show (wEq T u q i && _) = false; simp [h]
  | succ d ih => show (wEq T u q (i + 1 + d) && _) = false; rw [ih]; rfl
theorem wEq_t {T : Nat → Int} {u q i : Nat} (h : wEq T u q i = true) (h2 : T (q + i) = (q_ch u i : Int)) : wEq T u q (i + 1) = true := by
  show (wEq T u q i && _) = true
  rw [h, h2]
  simp
def wOk (T : Nat → Int) (L u p : Nat) : Bool := decide (tSk T L p < L) && (decide (tEn T L 97 122 (tSk T L p) = tSk T L p + q_sl u) && wEq T u (tSk T L p) (q_sl u))
def wTo (T : Nat → Int) (L u p : Nat) : Nat := if wOk T L u p = true then tEn T L 97 122 (tSk T L p) else tSk T L p
def q_num (T : Nat → Int) (q : Nat) : Nat → Int
  | 0 => 0
  | i + 1 => 10 * q_num T q i + T (q + i) - 48
def nVal (T : Nat → Int) (L : Nat) (lo hi : Int) (p : Nat) : Int :=
  if L ≤ tSk T L p then -1 else if tEn T L 48 57 (tSk T L p) = tSk T L p ∨ tSk T L p + 2 < tEn T L 48 57 (tSk T L p) then -1 else
    if q_num T (tSk T L p) (tEn T L 48 57 (tSk T L p) - tSk T L p) < lo ∨ hi < q_num T (tSk T L p) (tEn T L 48 57 (tSk T L p) - tSk T L p) then -1 else q_num T (tSk T L p) (tEn T L 48 57 (tSk T L p) - tSk T L p)
def nTo (T : Nat → Int) (L : Nat) (lo hi : Int) (p : Nat) : Nat := if nVal T L lo hi p = -1 then tSk T L p else tEn T L 48 57 (tSk T L p)
def sOk (T : Nat → Int) (L p : Nat) : Bool := decide (tSk T L p < L ∧ T (tSk T L p) = 59)
def sTo (T : Nat → Int) (L p : Nat) : Nat := if sOk T L p = true then tSk T L p + 1 else tSk T L p
theorem wTo_b {T : Nat → Int} {L u p : Nat} (h : p ≤ L) : wTo T L u p ≤ L := by
  have h1 := tSk_b (T := T) h
  have h2 := tEn_b (T := T) (a := 97) (b := 122) h1.2
  unfold wTo
  split <;> omega
theorem nTo_b {T : Nat → Int} {L : Nat} {lo hi : Int} {p : Nat} (h : p ≤ L) : nTo T L lo hi p ≤ L := by
  have h1 := tSk_b (T := T) h
  have h2 := tEn_b (T := T) (a := 48) (b := 57) h1.2
  unfold nTo
  split <;> omega
theorem sTo_b {T : Nat → Int} {L p : Nat} (h : p ≤ L) : sTo T L p ≤ L := by
  have h1 := tSk_b (T := T) h
  unfold sTo sOk
  split
  · next h2 => have := of_decide_eq_true h2; omega
  · omega
theorem nVal_b {T : Nat → Int} {L : Nat} {lo hi : Int} {p : Nat} : nVal T L lo hi p = -1 ∨ (lo ≤ nVal T L lo hi p ∧ nVal T L lo hi p ≤ hi) := by
  unfold nVal
  split
  · exact Or.inl rfl
  · split
    · exact Or.inl rfl
    · split
      · exact Or.inl rfl
      · right; omega
/-! the text's cells: the place is p, all else is G's -/
def tp (G : Mem) (p : Nat) : Mem := ug G 53 2 (p : Int)
theorem tp_at {G : Mem} {p : Nat} : tp G p 53 2 = p := ug_at
theorem tp_ne {G : Mem} {p a b : Nat} (h : ¬ (a = 53 ∧ b = 2)) : tp G p a b = G a b := ug_ne h
theorem tp_len {G : Mem} {p : Nat} : tp G p 53 1 = G 53 1 := ug_np (by decide)
theorem tp_by {G : Mem} {p j : Nat} : tp G p 54 j = G 54 j := ug_nc (by decide)
theorem tp_tp {G : Mem} {p q : Nat} {v : Int} (h : v = (q : Int)) : ug (tp G p) 53 2 v = tp G q := by
  subst h
  funext a b
  unfold tp ug
  split <;> rfl
def Tok (G : Mem) : Prop := (0 ≤ G 53 1 ∧ G 53 1 ≤ 150) ∧ ∀ j, 0 ≤ G 54 j ∧ G 54 j ≤ 255
abbrev tL (G : Mem) : Nat := (G 53 1).toNat
theorem Tok.tl {G : Mem} (h : Tok G) : (0 ≤ G 53 1 ∧ G 53 1 ≤ 150) ∧ ((tL G : Nat) : Int) = G 53 1 := by
  have h1 := h.1
  refine ⟨h1, ?_⟩
  show ((G 53 1).toNat : Int) = _
  omega
theorem m_append {G : Mem} (hG : 0 ≤ G 53 1 ∧ G 53 1 ≤ 150) {c : Int} : MP M_X7_append [.ref 53, .int (iI c)] G (vv (fun g => (if 150 ≤ G 53 1 then G else ug (ug G 54 (G 53 1).toNat c) 53 1 (G 53 1 + 1)) = g)) := by
  refine MP.of [some (.ref 53), some (.int (iI c))] (plainFor_of_name pn_X7) (Nat.le_of_ble_eq_true rfl) rfl ?_
  refine k_aload_n dX7_append_0 rfl ?_
  refine k_getI dX7_append_1 f_X7_15 (Nat.le_of_ble_eq_true rfl) sh_o53 (fun _ => rfl) ?_
  refine k_sipush dX7_append_4 (by decide) ?_
  refine k_icmp_ge 30 dX7_append_7 (by decide) ⟨by omega, by omega⟩ ⟨by decide, by decide⟩ (fun h7 => ?_) (fun h7 => ?_)
  · skip
    exact k_ret dX7_append_30 rfl ⟨rfl, by first | exact if_pos (by omega) | exact if_neg (by omega)⟩
  · skip
    refine k_aload_n dX7_append_10 rfl ?_
    refine k_getR dX7_append_11 f_X7_9 (Nat.le_of_ble_eq_true rfl) sh_o53 (fun _ => rfl) ?_
    refine k_aload_n dX7_append_14 rfl ?_
    refine k_getI dX7_append_15 f_X7_15 (Nat.le_of_ble_eq_true rfl) sh_o53 (fun _ => rfl) ?_
    refine k_iload_n dX7_append_18 rfl ?_
    refine k_iast (G 53 1).toNat dX7_append_19 (Nat.le_of_ble_eq_true rfl) sh_a54 (by decide) (by omega) (by omega) ?_
    refine k_aload_n dX7_append_20 rfl ?_
    refine k_dup dX7_append_21 rfl ?_
    refine k_getI dX7_append_22 f_X7_15 (Nat.le_of_ble_eq_true rfl) sh_o53 (fun _ => rfl) ?_
    try simp (disch := omega) only [ug_at, ug_nc, ug_np, cg_nc]
    refine k_iconst dX7_append_25 ?_
    refine k_iadd dX7_append_26 ?_
    refine k_putI dX7_append_27 f_X7_15 (Nat.le_of_ble_eq_true rfl) sh_o53 (fun _ => (Nat.le_of_ble_eq_true rfl)) rfl (fun _ => rfl) ?_
    exact k_ret dX7_append_30 rfl ⟨rfl, by first | exact if_pos (by omega) | exact if_neg (by omega)⟩
theorem lp_isAtEnd {G : Mem} (hG : Tok G)  : ∀ (d p : Nat), p + d = tL G → RP M_X7_isAtEnd 0 [some (.ref 53)] [] (tp G p) (vi fun v g => bI (tL G ≤ q_run (tB (G 54)) d p) = v ∧ tp G (q_run (tB (G 54)) d p) = g) := by
  have hL := hG.tl
  intro d
  induction d with
  | zero =>
    intro p hp
    refine k_aload_n dX7_isAtEnd_0 rfl ?_
    refine k_getI dX7_isAtEnd_1 f_X7_19 (Nat.le_of_ble_eq_true rfl) sh_o53 (fun _ => rfl) ?_
    try simp only [tp_at, tp_len, tp_by]
    refine k_aload_n dX7_isAtEnd_4 rfl ?_
    refine k_getI dX7_isAtEnd_5 f_X7_15 (Nat.le_of_ble_eq_true rfl) sh_o53 (fun _ => rfl) ?_
    try simp only [tp_at, tp_len, tp_by]
    refine k_icmp_ge 38 dX7_isAtEnd_8 (by decide) ⟨by omega, by omega⟩ ⟨by omega, by omega⟩ (fun h8 => ?_) (fun h8 => absurd h8 (by omega))
    refine k_aload_n dX7_isAtEnd_38 rfl ?_
    refine k_getI dX7_isAtEnd_39 f_X7_19 (Nat.le_of_ble_eq_true rfl) sh_o53 (fun _ => rfl) ?_
    try simp only [tp_at, tp_len, tp_by]
    refine k_aload_n dX7_isAtEnd_42 rfl ?_
    refine k_getI dX7_isAtEnd_43 f_X7_15 (Nat.le_of_ble_eq_true rfl) sh_o53 (fun _ => rfl) ?_
    try simp only [tp_at, tp_len, tp_by]
    refine k_icmp_lt 53 dX7_isAtEnd_46 (by decide) ⟨by omega, by omega⟩ ⟨by omega, by omega⟩ (fun h46 => absurd h46 (by omega)) (fun h46 => ?_)
    refine k_iconst dX7_isAtEnd_49 ?_
    refine k_goto 54 dX7_isAtEnd_50 (by decide) ?_
    exact k_zret dX7_isAtEnd_54 rfl (Or.inr rfl) ⟨_, rfl, by unfold bI; exact if_pos (by unfold q_run; omega), rfl⟩
  | succ d ih =>
    intro p hp
    have hb := hG.2 p
    have e := q_run.eq_2 (tB (G 54)) p d
    refine k_aload_n dX7_isAtEnd_0 rfl ?_
    refine k_getI dX7_isAtEnd_1 f_X7_19 (Nat.le_of_ble_eq_true rfl) sh_o53 (fun _ => rfl) ?_
    try simp only [tp_at, tp_len, tp_by]
    refine k_aload_n dX7_isAtEnd_4 rfl ?_
    refine k_getI dX7_isAtEnd_5 f_X7_15 (Nat.le_of_ble_eq_true rfl) sh_o53 (fun _ => rfl) ?_
    try simp only [tp_at, tp_len, tp_by]
    refine k_icmp_ge 38 dX7_isAtEnd_8 (by decide) ⟨by omega, by omega⟩ ⟨by omega, by omega⟩ (fun h8 => absurd h8 (by omega)) (fun h8 => ?_)
    refine k_aload_n dX7_isAtEnd_11 rfl ?_
    refine k_getR dX7_isAtEnd_12 f_X7_9 (Nat.le_of_ble_eq_true rfl) sh_o53 (fun _ => rfl) ?_
    try simp only [tp_at, tp_len, tp_by]
    refine k_aload_n dX7_isAtEnd_15 rfl ?_
    refine k_getI dX7_isAtEnd_16 f_X7_19 (Nat.le_of_ble_eq_true rfl) sh_o53 (fun _ => rfl) ?_
    try simp only [tp_at, tp_len, tp_by]
    refine k_iald p dX7_isAtEnd_19 (Nat.le_of_ble_eq_true rfl) sh_a54 (by decide) (by omega) (by omega) ?_
    try simp only [tp_at, tp_len, tp_by]
    refine k_bipush dX7_isAtEnd_20 (by decide) ?_
    refine k_icmp_ne 38 dX7_isAtEnd_22 (by decide) ⟨by omega, by omega⟩ ⟨by decide, by decide⟩ (fun h22 => ?_) (fun h22 => ?_)
    · skip
      refine k_aload_n dX7_isAtEnd_38 rfl ?_
      refine k_getI dX7_isAtEnd_39 f_X7_19 (Nat.le_of_ble_eq_true rfl) sh_o53 (fun _ => rfl) ?_
      try simp only [tp_at, tp_len, tp_by]
      refine k_aload_n dX7_isAtEnd_42 rfl ?_
      refine k_getI dX7_isAtEnd_43 f_X7_15 (Nat.le_of_ble_eq_true rfl) sh_o53 (fun _ => rfl) ?_
      try simp only [tp_at, tp_len, tp_by]
      refine k_icmp_lt 53 dX7_isAtEnd_46 (by decide) ⟨by omega, by omega⟩ ⟨by omega, by omega⟩ (fun h46 => ?_) (fun h46 => absurd h46 (by omega))
      refine k_iconst dX7_isAtEnd_53 ?_
      exact k_zret dX7_isAtEnd_54 rfl (Or.inl rfl) ⟨_, rfl, by rw [e, if_neg (by unfold tB; simpa using h22)]; unfold bI; exact if_neg (by omega), by rw [e, if_neg (by unfold tB; simpa using h22)]⟩
    · skip
      refine k_aload_n dX7_isAtEnd_25 rfl ?_
      refine k_dup dX7_isAtEnd_26 rfl ?_
      refine k_getI dX7_isAtEnd_27 f_X7_19 (Nat.le_of_ble_eq_true rfl) sh_o53 (fun _ => rfl) ?_
      try simp only [tp_at, tp_len, tp_by]
      refine k_iconst dX7_isAtEnd_30 ?_
      refine k_iadd dX7_isAtEnd_31 ?_
      refine k_putI dX7_isAtEnd_32 f_X7_19 (Nat.le_of_ble_eq_true rfl) sh_o53 (fun _ => (Nat.le_of_ble_eq_true rfl)) rfl (fun _ => rfl) ?_
      refine k_goto 0 dX7_isAtEnd_35 (by decide) ?_
      rw [if_pos (by unfold tB; simpa using h22)] at e
      rw [e, tp_tp (q := p + 1) (by omega)]
      exact ih (p + 1) (by omega)
theorem m_isAtEnd {G : Mem} (hG : Tok G) {p : Nat} (hp : p ≤ tL G) : MP M_X7_isAtEnd [.ref 53] (tp G p) (vi fun v g => bI (tL G ≤ tSk (G 54) (tL G) p) = v ∧ tp G (tSk (G 54) (tL G) p) = g) := by
  refine MP.of [some (.ref 53)] (plainFor_of_name pn_X7) (Nat.le_of_ble_eq_true rfl) rfl ?_
  exact lp_isAtEnd hG (tL G - p) p (by omega)
theorem lp_endOfRun {G : Mem} (hG : Tok G) {a b : Int} (ha : R32 a) (hbb : R32 b) {p : Nat} (hp0 : p ≤ tL G) : ∀ (d i : Nat), i + d = tL G → RP M_X7_endOfRun 5 [some (.ref 53), some (.int (iI a)), some (.int (iI b)), some (.int (iI (i : Int)))] [] (tp G p) (vx (q_run (tR (G 54) a b) d i : Int) (tp G p)) := by
  have hL := hG.tl
  intro d
  induction d with
  | zero =>
    intro i hp
    refine k_iload_n dX7_endOfRun_5 rfl ?_
    refine k_aload_n dX7_endOfRun_6 rfl ?_
    refine k_getI dX7_endOfRun_7 f_X7_15 (Nat.le_of_ble_eq_true rfl) sh_o53 (fun _ => rfl) ?_
    try simp only [tp_at, tp_len, tp_by]
    refine k_icmp_ge 39 dX7_endOfRun_10 (by decide) ⟨by omega, by omega⟩ ⟨by omega, by omega⟩ (fun h10 => ?_) (fun h10 => absurd h10 (by omega))
    refine k_iload_n dX7_endOfRun_39 rfl ?_
    exact k_iret dX7_endOfRun_40 rfl ⟨_, rfl, rfl, rfl⟩
  | succ d ih =>
    intro i hp
    have hb := hG.2 i
    have e := q_run.eq_2 (tR (G 54) a b) i d
    refine k_iload_n dX7_endOfRun_5 rfl ?_
    refine k_aload_n dX7_endOfRun_6 rfl ?_
    refine k_getI dX7_endOfRun_7 f_X7_15 (Nat.le_of_ble_eq_true rfl) sh_o53 (fun _ => rfl) ?_
    try simp only [tp_at, tp_len, tp_by]
    refine k_icmp_ge 39 dX7_endOfRun_10 (by decide) ⟨by omega, by omega⟩ ⟨by omega, by omega⟩ (fun h10 => absurd h10 (by omega)) (fun h10 => ?_)
    refine k_aload_n dX7_endOfRun_13 rfl ?_
    refine k_getR dX7_endOfRun_14 f_X7_9 (Nat.le_of_ble_eq_true rfl) sh_o53 (fun _ => rfl) ?_
    try simp only [tp_at, tp_len, tp_by]
    refine k_iload_n dX7_endOfRun_17 rfl ?_
    refine k_iald i dX7_endOfRun_18 (Nat.le_of_ble_eq_true rfl) sh_a54 (by decide) (by omega) (by omega) ?_
    try simp only [tp_at, tp_len, tp_by]
    refine k_iload_n dX7_endOfRun_19 rfl ?_
    refine k_icmp_lt 39 dX7_endOfRun_20 (by decide) ⟨by omega, by omega⟩ ha (fun h20 => ?_) (fun h20 => ?_)
    · skip
      refine k_iload_n dX7_endOfRun_39 rfl ?_
      exact k_iret dX7_endOfRun_40 rfl ⟨_, rfl, by rw [e, if_neg (by unfold tR; simp only [decide_eq_true_eq]; omega)], rfl⟩
    · skip
      refine k_aload_n dX7_endOfRun_23 rfl ?_
      refine k_getR dX7_endOfRun_24 f_X7_9 (Nat.le_of_ble_eq_true rfl) sh_o53 (fun _ => rfl) ?_
      try simp only [tp_at, tp_len, tp_by]
      refine k_iload_n dX7_endOfRun_27 rfl ?_
      refine k_iald i dX7_endOfRun_28 (Nat.le_of_ble_eq_true rfl) sh_a54 (by decide) (by omega) (by omega) ?_
      try simp only [tp_at, tp_len, tp_by]
      refine k_iload_n dX7_endOfRun_29 rfl ?_
      refine k_icmp_gt 39 dX7_endOfRun_30 (by decide) ⟨by omega, by omega⟩ hbb (fun h30 => ?_) (fun h30 => ?_)
      · skip
        refine k_iload_n dX7_endOfRun_39 rfl ?_
        exact k_iret dX7_endOfRun_40 rfl ⟨_, rfl, by rw [e, if_neg (by unfold tR; simp only [decide_eq_true_eq]; omega)], rfl⟩
      · skip
        refine k_iinc (L' := [_, _, _, _]) dX7_endOfRun_33 rfl (Nat.le_of_ble_eq_true rfl) rfl ?_
        refine k_goto 5 dX7_endOfRun_36 (by decide) ?_
        rw [if_pos (by unfold tR; simp only [decide_eq_true_eq]; omega)] at e
        rw [e]
        exact ih (i + 1) (by omega)
theorem m_endOfRun {G : Mem} (hG : Tok G) {a b : Int} (ha : R32 a) (hbb : R32 b) {p : Nat} (hp : p ≤ tL G) : MP M_X7_endOfRun [.ref 53, .int (iI a), .int (iI b)] (tp G p) (vx (tEn (G 54) (tL G) a b p : Int) (tp G p)) := by
  have hL := hG.tl
  refine MP.of [some (.ref 53), some (.int (iI a)), some (.int (iI b)), none] (plainFor_of_name pn_X7) (Nat.le_of_ble_eq_true rfl) rfl ?_
  refine k_aload_n dX7_endOfRun_0 rfl ?_
  refine k_getI dX7_endOfRun_1 f_X7_19 (Nat.le_of_ble_eq_true rfl) sh_o53 (fun _ => rfl) ?_
  try simp only [tp_at, tp_len, tp_by]
  refine k_istore_n (L' := [_, _, _, _]) dX7_endOfRun_4 (Nat.le_of_ble_eq_true rfl) rfl ?_
  exact lp_endOfRun hG ha hbb hp (tL G - p) p (by omega)
theorem m_readSemicolon {G : Mem} (hG : Tok G) {p : Nat} (hp : p ≤ tL G) : MP M_X7_readSemicolon [.ref 53] (tp G p) (vi fun v g => bI (sOk (G 54) (tL G) p = true) = v ∧ tp G (sTo (G 54) (tL G) p) = g) := by
  have hL := hG.tl
  have hs := tSk_b (T := G 54) hp
  have hb := hG.2 (tSk (G 54) (tL G) p)
  refine MP.of [some (.ref 53)] (plainFor_of_name pn_X7) (Nat.le_of_ble_eq_true rfl) rfl ?_
  refine k_aload_n dX7_readSemicolon_0 rfl ?_
  refine k_callVi [] dX7_readSemicolon_1 s_X7_readSemicolon_22 rfl (m_isAtEnd hG hp) rfl (Nat.le_of_ble_eq_true rfl) sh_o53 ⟨_, rfl, rfl⟩ (Nat.le_of_ble_eq_true rfl) ?_
  rintro _ _ ⟨rfl, rfl⟩
  refine k_ifb_ne 21 dX7_readSemicolon_4 (by decide) (fun h4 => ?_) (fun h4 => ?_)
  · skip
    refine k_iconst dX7_readSemicolon_21 ?_
    exact k_zret dX7_readSemicolon_22 rfl (Or.inl rfl) ⟨_, rfl, by unfold bI; exact if_neg (by unfold sOk; simp only [decide_eq_true_eq]; omega), by unfold sTo; rw [if_neg (by unfold sOk; simp only [decide_eq_true_eq]; omega)]⟩
  · skip
    refine k_aload_n dX7_readSemicolon_7 rfl ?_
    refine k_getR dX7_readSemicolon_8 f_X7_9 (Nat.le_of_ble_eq_true rfl) sh_o53 (fun _ => rfl) ?_
    try simp only [tp_at, tp_len, tp_by]
    refine k_aload_n dX7_readSemicolon_11 rfl ?_
    refine k_getI dX7_readSemicolon_12 f_X7_19 (Nat.le_of_ble_eq_true rfl) sh_o53 (fun _ => rfl) ?_
    try simp only [tp_at, tp_len, tp_by]
    refine k_iald (tSk (G 54) (tL G) p) dX7_readSemicolon_15 (Nat.le_of_ble_eq_true rfl) sh_a54 (by decide) (by omega) (by omega) ?_
    try simp only [tp_at, tp_len, tp_by]
    refine k_bipush dX7_readSemicolon_16 (by decide) ?_
    refine k_icmp_eq 23 dX7_readSemicolon_18 (by decide) ⟨by omega, by omega⟩ ⟨by decide, by decide⟩ (fun h18 => ?_) (fun h18 => ?_)
    · skip
      refine k_aload_n dX7_readSemicolon_23 rfl ?_
      refine k_dup dX7_readSemicolon_24 rfl ?_
      refine k_getI dX7_readSemicolon_25 f_X7_19 (Nat.le_of_ble_eq_true rfl) sh_o53 (fun _ => rfl) ?_
      try simp only [tp_at, tp_len, tp_by]
      refine k_iconst dX7_readSemicolon_28 ?_
      refine k_iadd dX7_readSemicolon_29 ?_
      refine k_putI dX7_readSemicolon_30 f_X7_19 (Nat.le_of_ble_eq_true rfl) sh_o53 (fun _ => (Nat.le_of_ble_eq_true rfl)) rfl (fun _ => rfl) ?_
      refine k_iconst dX7_readSemicolon_33 ?_
      exact k_zret dX7_readSemicolon_34 rfl (Or.inr rfl) ⟨_, rfl, by unfold bI; exact if_pos (by unfold sOk; exact decide_eq_true ⟨by omega, h18⟩), by rw [tp_tp (q := tSk (G 54) (tL G) p + 1) (by omega)]; unfold sTo; rw [if_pos (by unfold sOk; exact decide_eq_true ⟨by omega, h18⟩)]⟩
    · skip
      refine k_iconst dX7_readSemicolon_21 ?_
      exact k_zret dX7_readSemicolon_22 rfl (Or.inl rfl) ⟨_, rfl, by unfold bI; exact if_neg (by unfold sOk; simp only [decide_eq_true_eq]; omega), by unfold sTo; rw [if_neg (by unfold sOk; simp only [decide_eq_true_eq]; omega)]⟩
theorem nVal_1 {T : Nat → Int} {L : Nat} {lo hi : Int} {p : Nat} (h : L ≤ tSk T L p) : nVal T L lo hi p = -1 := if_pos h
theorem nVal_2 {T : Nat → Int} {L : Nat} {lo hi : Int} {p : Nat} (h : ¬ L ≤ tSk T L p) (h2 : tEn T L 48 57 (tSk T L p) = tSk T L p ∨ tSk T L p + 2 < tEn T L 48 57 (tSk T L p)) : nVal T L lo hi p = -1 := by
  unfold nVal
  rw [if_neg h, if_pos h2]
theorem nVal_3 {T : Nat → Int} {L : Nat} {lo hi : Int} {p : Nat} {n : Int} (h : ¬ L ≤ tSk T L p) (h2 : ¬ (tEn T L 48 57 (tSk T L p) = tSk T L p ∨ tSk T L p + 2 < tEn T L 48 57 (tSk T L p))) (hn : q_num T (tSk T L p) (tEn T L 48 57 (tSk T L p) - tSk T L p) = n) : nVal T L lo hi p = if n < lo ∨ hi < n then -1 else n := by
  unfold nVal
  rw [if_neg h, if_neg h2, hn]
theorem nTo_1 {T : Nat → Int} {L : Nat} {lo hi : Int} {p : Nat} (h : nVal T L lo hi p = -1) : nTo T L lo hi p = tSk T L p := if_pos h
theorem nTo_2 {T : Nat → Int} {L : Nat} {lo hi : Int} {p : Nat} (h : ¬ nVal T L lo hi p = -1) : nTo T L lo hi p = tEn T L 48 57 (tSk T L p) := if_neg h
theorem q_num_b {T : Nat → Int} {q : Nat} : ∀ k, k ≤ 2 → (∀ j, j < k → 48 ≤ T (q + j) ∧ T (q + j) ≤ 57) → 0 ≤ q_num T q k ∧ q_num T q k ≤ 99
  | 0, _, _ => by unfold q_num; omega
  | 1, _, h => by
    have := h 0 (by omega)
    unfold q_num q_num
    omega
  | 2, _, h => by
    have := h 0 (by omega)
    have := h 1 (by omega)
    unfold q_num q_num q_num
    omega
  | k + 3, hk, _ => absurd hk (by omega)
theorem tEn_in {T : Nat → Int} {L : Nat} {a b : Int} {p j : Nat} (h : p + j < tEn T L a b p) : a ≤ T (p + j) ∧ T (p + j) ≤ b := by
  have h2 := q_run_in (L - p) p (p + j) (by omega) h
  unfold tR at h2
  exact of_decide_eq_true h2
theorem lp_readNumber {G : Mem} (hG : Tok G) {lo hi : Int} {q e : Nat} (hq : q ≤ e) (he : e ≤ tL G) {Post : Option Value → Mem → Prop} (hk : ∀ j5 : Option Value, RP M_X7_readNumber 77 [some (.ref 53), some (.int (iI lo)), some (.int (iI hi)), some (.int (iI (e : Int))), some (.int (iI (q_num (G 54) q (e - q)))), j5] [] (tp G q) Post) : ∀ k : Nat, k ≤ e - q → RP M_X7_readNumber 47 [some (.ref 53), some (.int (iI lo)), some (.int (iI hi)), some (.int (iI (e : Int))), some (.int (iI (q_num (G 54) q k))), some (.int (iI ((q + k : Nat) : Int)))] [] (tp G q) Post := by
  have hL := hG.tl
  refine cnt ?_ (fun k hkk ih => ?_)
  · skip
    refine k_iload dX7_readNumber_47 rfl ?_
    refine k_iload_n dX7_readNumber_49 rfl ?_
    refine k_icmp_ge 77 dX7_readNumber_50 (by decide) ⟨by omega, by omega⟩ ⟨by omega, by omega⟩ (fun h50 => ?_) (fun h50 => absurd h50 (by omega))
    exact hk _
  · skip
    refine k_iload dX7_readNumber_47 rfl ?_
    refine k_iload_n dX7_readNumber_49 rfl ?_
    refine k_icmp_ge 77 dX7_readNumber_50 (by decide) ⟨by omega, by omega⟩ ⟨by omega, by omega⟩ (fun h50 => absurd h50 (by omega)) (fun h50 => ?_)
    refine k_bipush dX7_readNumber_53 (by decide) ?_
    refine k_iload dX7_readNumber_55 rfl ?_
    refine k_imul dX7_readNumber_57 ?_
    refine k_aload_n dX7_readNumber_58 rfl ?_
    refine k_getR dX7_readNumber_59 f_X7_9 (Nat.le_of_ble_eq_true rfl) sh_o53 (fun _ => rfl) ?_
    try simp only [tp_at, tp_len, tp_by]
    refine k_iload dX7_readNumber_62 rfl ?_
    refine k_iald (q + k) dX7_readNumber_64 (Nat.le_of_ble_eq_true rfl) sh_a54 (by decide) (by omega) (by omega) ?_
    try simp only [tp_at, tp_len, tp_by]
    refine k_iadd dX7_readNumber_65 ?_
    refine k_bipush dX7_readNumber_66 (by decide) ?_
    refine k_isub dX7_readNumber_68 ?_
    refine k_istore (L' := [_, _, _, _, _, _]) dX7_readNumber_69 (Nat.le_of_ble_eq_true rfl) rfl ?_
    refine k_iinc (L' := [_, _, _, _, _, _]) dX7_readNumber_71 rfl (Nat.le_of_ble_eq_true rfl) rfl ?_
    refine k_goto 47 dX7_readNumber_74 (by decide) ?_
    exact ih
theorem m_readNumber {G : Mem} (hG : Tok G) {lo hi : Int} (hlo : 0 ≤ lo ∧ lo ≤ 100) (hhi : 0 ≤ hi ∧ hi ≤ 100) {p : Nat} (hp : p ≤ tL G) : MP M_X7_readNumber [.ref 53, .int (iI lo), .int (iI hi)] (tp G p) (vi fun v g => nVal (G 54) (tL G) lo hi p = v ∧ tp G (nTo (G 54) (tL G) lo hi p) = g) := by
  have hL := hG.tl
  have hs := tSk_b (T := G 54) hp
  have he := tEn_b (T := G 54) (a := 48) (b := 57) hs.2
  refine MP.of [some (.ref 53), some (.int (iI lo)), some (.int (iI hi)), none, none, none] (plainFor_of_name pn_X7) (Nat.le_of_ble_eq_true rfl) rfl ?_
  refine k_aload_n dX7_readNumber_0 rfl ?_
  refine k_callVi [] dX7_readNumber_1 s_X7_readNumber_22 rfl (m_isAtEnd hG hp) rfl (Nat.le_of_ble_eq_true rfl) sh_o53 ⟨_, rfl, rfl⟩ (Nat.le_of_ble_eq_true rfl) ?_
  rintro _ _ ⟨rfl, rfl⟩
  refine k_ifb_eq 9 dX7_readNumber_4 (by decide) (fun h4 => ?_) (fun h4 => ?_)
  · skip
    refine k_aload_n dX7_readNumber_9 rfl ?_
    refine k_bipush dX7_readNumber_10 (by decide) ?_
    refine k_bipush dX7_readNumber_12 (by decide) ?_
    refine k_callVi [.int (iI _), .int (iI _)] dX7_readNumber_14 s_X7_readNumber_58 rfl (m_endOfRun hG ⟨by decide, by decide⟩ ⟨by decide, by decide⟩ hs.2) rfl (Nat.le_of_ble_eq_true rfl) sh_o53 ⟨_, rfl, rfl⟩ (Nat.le_of_ble_eq_true rfl) ?_
    rintro _ _ ⟨rfl, rfl⟩
    refine k_istore_n (L' := [_, _, _, _, _, _]) dX7_readNumber_17 (Nat.le_of_ble_eq_true rfl) rfl ?_
    refine k_iload_n dX7_readNumber_18 rfl ?_
    refine k_aload_n dX7_readNumber_19 rfl ?_
    refine k_getI dX7_readNumber_20 f_X7_19 (Nat.le_of_ble_eq_true rfl) sh_o53 (fun _ => rfl) ?_
    try simp only [tp_at, tp_len, tp_by]
    refine k_icmp_eq 36 dX7_readNumber_23 (by decide) ⟨by omega, by omega⟩ ⟨by omega, by omega⟩ (fun h23 => ?_) (fun h23 => ?_)
    · skip
      refine k_iconst dX7_readNumber_36 ?_
      exact k_iret dX7_readNumber_37 rfl ⟨_, rfl, by first | exact nVal_1 h4 | exact nVal_2 h4 (by omega), by rw [nTo_1 (by first | exact nVal_1 h4 | exact nVal_2 h4 (by omega))]⟩
    · skip
      refine k_iload_n dX7_readNumber_26 rfl ?_
      refine k_aload_n dX7_readNumber_27 rfl ?_
      refine k_getI dX7_readNumber_28 f_X7_19 (Nat.le_of_ble_eq_true rfl) sh_o53 (fun _ => rfl) ?_
      try simp only [tp_at, tp_len, tp_by]
      refine k_iconst dX7_readNumber_31 ?_
      refine k_iadd dX7_readNumber_32 ?_
      refine k_icmp_le 38 dX7_readNumber_33 (by decide) ⟨by omega, by omega⟩ ⟨by omega, by omega⟩ (fun h33 => ?_) (fun h33 => ?_)
      · skip
        refine k_iconst dX7_readNumber_38 ?_
        refine k_istore (L' := [_, _, _, _, _, _]) dX7_readNumber_39 (Nat.le_of_ble_eq_true rfl) rfl ?_
        refine k_aload_n dX7_readNumber_41 rfl ?_
        refine k_getI dX7_readNumber_42 f_X7_19 (Nat.le_of_ble_eq_true rfl) sh_o53 (fun _ => rfl) ?_
        try simp only [tp_at, tp_len, tp_by]
        refine k_istore (L' := [_, _, _, _, _, _]) dX7_readNumber_45 (Nat.le_of_ble_eq_true rfl) rfl ?_
        refine lp_readNumber hG he.1 he.2 (fun j5 => ?_) 0 (by omega)
        have hb := q_num_b (T := G 54) (q := (tSk (G 54) (tL G) p)) ((tEn (G 54) (tL G) 48 57 (tSk (G 54) (tL G) p)) - (tSk (G 54) (tL G) p)) (by omega) (fun j hj => tEn_in (L := tL G) (by omega))
        obtain ⟨n, hn⟩ : ∃ n, q_num (G 54) (tSk (G 54) (tL G) p) ((tEn (G 54) (tL G) 48 57 (tSk (G 54) (tL G) p)) - (tSk (G 54) (tL G) p)) = n := ⟨_, rfl⟩
        rw [hn] at hb ⊢
        have hv := nVal_3 (lo := lo) (hi := hi) h4 (by omega) hn
        refine k_iload dX7_readNumber_77 rfl ?_
        refine k_iload_n dX7_readNumber_79 rfl ?_
        refine k_icmp_lt 89 dX7_readNumber_80 (by decide) ⟨by omega, by omega⟩ ⟨by omega, by omega⟩ (fun h80 => ?_) (fun h80 => ?_)
        · skip
          refine k_iconst dX7_readNumber_89 ?_
          exact k_iret dX7_readNumber_90 rfl ⟨_, rfl, by rw [hv]; exact if_pos (by omega), by rw [if_pos (by omega)] at hv; rw [nTo_1 hv]⟩
        · skip
          refine k_iload dX7_readNumber_83 rfl ?_
          refine k_iload_n dX7_readNumber_85 rfl ?_
          refine k_icmp_le 91 dX7_readNumber_86 (by decide) ⟨by omega, by omega⟩ ⟨by omega, by omega⟩ (fun h86 => ?_) (fun h86 => ?_)
          · skip
            refine k_aload_n dX7_readNumber_91 rfl ?_
            refine k_iload_n dX7_readNumber_92 rfl ?_
            refine k_putI dX7_readNumber_93 f_X7_19 (Nat.le_of_ble_eq_true rfl) sh_o53 (fun _ => (Nat.le_of_ble_eq_true rfl)) rfl (fun _ => rfl) ?_
            refine k_iload dX7_readNumber_96 rfl ?_
            exact k_iret dX7_readNumber_98 rfl ⟨_, rfl, by rw [hv]; exact if_neg (by omega), by rw [if_neg (by omega)] at hv; rw [nTo_2 (by omega)]; exact (tp_tp rfl).symm⟩
          · skip
            refine k_iconst dX7_readNumber_89 ?_
            exact k_iret dX7_readNumber_90 rfl ⟨_, rfl, by rw [hv]; exact if_pos (by omega), by rw [if_pos (by omega)] at hv; rw [nTo_1 hv]⟩
      · skip
        refine k_iconst dX7_readNumber_36 ?_
        exact k_iret dX7_readNumber_37 rfl ⟨_, rfl, by first | exact nVal_1 h4 | exact nVal_2 h4 (by omega), by rw [nTo_1 (by first | exact nVal_1 h4 | exact nVal_2 h4 (by omega))]⟩
  · skip
    refine k_iconst dX7_readNumber_7 ?_
    exact k_iret dX7_readNumber_8 rfl ⟨_, rfl, by first | exact nVal_1 h4 | exact nVal_2 h4 (by omega), by rw [nTo_1 (by first | exact nVal_1 h4 | exact nVal_2 h4 (by omega))]⟩
theorem lp_readWord {G : Mem} (hG : Tok G) {u v : UInt32} (hu : u.toNat < 2) (hv : v.toNat = u.toNat + 100) {p q e : Nat} (hq : tSk (G 54) (tL G) p = q) (hqL : q < tL G) (he : tEn (G 54) (tL G) 97 122 q = e) (hee : e = q + q_sl u.toNat) (heL : e ≤ tL G) : ∀ i : Nat, i ≤ q_sl u.toNat → wEq (G 54) u.toNat q i = true → RP M_X7_readWord 35 [some (.ref 53), some (.float u), some (.int (iI (e : Int))), some (.int (iI (i : Int)))] [] (tp G q) (vi fun v g => bI (wOk (G 54) (tL G) u.toNat p = true) = v ∧ tp G (wTo (G 54) (tL G) u.toNat p) = g) := by
  have hL := hG.tl
  have h5 := sl_t u.toNat hu
  have e1 : wOk (G 54) (tL G) u.toNat p = wEq (G 54) u.toNat q (q_sl u.toNat) := by
    unfold wOk
    rw [hq, he, decide_eq_true hqL, decide_eq_true hee, Bool.true_and, Bool.true_and]
  refine cnt (fun hw => ?_) (fun i hi ih hw => ?_)
  · skip
    rw [hw] at e1
    refine k_iload_n dX7_readWord_35 rfl ?_
    refine k_sload_n dX7_readWord_36 rfl ?_
    refine k_callVsi [] dX7_readWord_37 s_X7_readWord_61 rfl (m_strLength hu hv) rfl hu rfl (Nat.le_of_ble_eq_true rfl) ?_
    rintro _ _ ⟨rfl, rfl⟩
    refine k_icmp_ge 70 dX7_readWord_40 (by decide) ⟨by omega, by omega⟩ ⟨by omega, by omega⟩ (fun h40 => ?_) (fun h40 => absurd h40 (by omega))
    refine k_aload_n dX7_readWord_70 rfl ?_
    refine k_iload_n dX7_readWord_71 rfl ?_
    refine k_putI dX7_readWord_72 f_X7_19 (Nat.le_of_ble_eq_true rfl) sh_o53 (fun _ => (Nat.le_of_ble_eq_true rfl)) rfl (fun _ => rfl) ?_
    refine k_iconst dX7_readWord_75 ?_
    exact k_zret dX7_readWord_76 rfl (Or.inr rfl) ⟨_, rfl, by unfold bI; exact if_pos e1, by unfold wTo; rw [if_pos e1, hq, he]; exact (tp_tp rfl).symm⟩
  · skip
    have hb := hG.2 (q + i)
    have hc := (ch_t u.toNat hu i (by omega)).2.2.2.2
    refine k_iload_n dX7_readWord_35 rfl ?_
    refine k_sload_n dX7_readWord_36 rfl ?_
    refine k_callVsi [] dX7_readWord_37 s_X7_readWord_61 rfl (m_strLength hu hv) rfl hu rfl (Nat.le_of_ble_eq_true rfl) ?_
    rintro _ _ ⟨rfl, rfl⟩
    refine k_icmp_ge 70 dX7_readWord_40 (by decide) ⟨by omega, by omega⟩ ⟨by omega, by omega⟩ (fun h40 => absurd h40 (by omega)) (fun h40 => ?_)
    refine k_aload_n dX7_readWord_43 rfl ?_
    refine k_getR dX7_readWord_44 f_X7_9 (Nat.le_of_ble_eq_true rfl) sh_o53 (fun _ => rfl) ?_
    try simp only [tp_at, tp_len, tp_by]
    refine k_aload_n dX7_readWord_47 rfl ?_
    refine k_getI dX7_readWord_48 f_X7_19 (Nat.le_of_ble_eq_true rfl) sh_o53 (fun _ => rfl) ?_
    try simp only [tp_at, tp_len, tp_by]
    refine k_iload_n dX7_readWord_51 rfl ?_
    refine k_iadd dX7_readWord_52 ?_
    refine k_iald (q + i) dX7_readWord_53 (Nat.le_of_ble_eq_true rfl) sh_a54 (by decide) (by omega) (by omega) ?_
    try simp only [tp_at, tp_len, tp_by]
    refine k_sload_n dX7_readWord_54 rfl ?_
    refine k_iload_n dX7_readWord_55 rfl ?_
    refine k_callVsi [.int (iI _)] dX7_readWord_56 s_X7_readWord_66 rfl (m_charAt hu hv i rfl (by omega)) rfl hu rfl (Nat.le_of_ble_eq_true rfl) ?_
    rintro _ _ ⟨rfl, rfl⟩
    refine k_icmp_eq 64 dX7_readWord_59 (by decide) ⟨by omega, by omega⟩ ⟨by omega, by omega⟩ (fun h59 => ?_) (fun h59 => ?_)
    · skip
      refine k_iinc (L' := [_, _, _, _]) dX7_readWord_64 rfl (Nat.le_of_ble_eq_true rfl) rfl ?_
      refine k_goto 35 dX7_readWord_67 (by decide) ?_
      exact ih (wEq_t hw h59)
    · skip
      refine k_iconst dX7_readWord_62 ?_
      exact k_zret dX7_readWord_63 rfl (Or.inl rfl) ⟨_, rfl, by rw [wEq_n (fun z => h59 z) hi] at e1; unfold bI; exact if_neg (by rw [e1]; decide), by rw [wEq_n (fun z => h59 z) hi] at e1; unfold wTo; rw [if_neg (by rw [e1]; decide), hq]⟩
theorem m_readWord {G : Mem} (hG : Tok G) {u v : UInt32} (hu : u.toNat < 2) (hv : v.toNat = u.toNat + 100) {p : Nat} (hp : p ≤ tL G) : MP M_X7_readWord [.ref 53, .float u] (tp G p) (vi fun v g => bI (wOk (G 54) (tL G) u.toNat p = true) = v ∧ tp G (wTo (G 54) (tL G) u.toNat p) = g) := by
  have hL := hG.tl
  have h5 := sl_t u.toNat hu
  have hs := tSk_b (T := G 54) hp
  have he := tEn_b (T := G 54) (a := 97) (b := 122) hs.2
  refine MP.of [some (.ref 53), some (.float u), none, none] (plainFor_of_name pn_X7) (Nat.le_of_ble_eq_true rfl) rfl ?_
  refine k_aload_n dX7_readWord_0 rfl ?_
  refine k_callVi [] dX7_readWord_1 s_X7_readWord_22 rfl (m_isAtEnd hG hp) rfl (Nat.le_of_ble_eq_true rfl) sh_o53 ⟨_, rfl, rfl⟩ (Nat.le_of_ble_eq_true rfl) ?_
  rintro _ _ ⟨rfl, rfl⟩
  refine k_ifb_eq 9 dX7_readWord_4 (by decide) (fun h4 => ?_) (fun h4 => ?_)
  · skip
    refine k_aload_n dX7_readWord_9 rfl ?_
    refine k_bipush dX7_readWord_10 (by decide) ?_
    refine k_bipush dX7_readWord_12 (by decide) ?_
    refine k_callVi [.int (iI _), .int (iI _)] dX7_readWord_14 s_X7_readWord_58 rfl (m_endOfRun hG ⟨by decide, by decide⟩ ⟨by decide, by decide⟩ hs.2) rfl (Nat.le_of_ble_eq_true rfl) sh_o53 ⟨_, rfl, rfl⟩ (Nat.le_of_ble_eq_true rfl) ?_
    rintro _ _ ⟨rfl, rfl⟩
    refine k_istore_n (L' := [_, _, _, _]) dX7_readWord_17 (Nat.le_of_ble_eq_true rfl) rfl ?_
    refine k_iload_n dX7_readWord_18 rfl ?_
    refine k_aload_n dX7_readWord_19 rfl ?_
    refine k_getI dX7_readWord_20 f_X7_19 (Nat.le_of_ble_eq_true rfl) sh_o53 (fun _ => rfl) ?_
    try simp only [tp_at, tp_len, tp_by]
    refine k_isub dX7_readWord_23 ?_
    refine k_sload_n dX7_readWord_24 rfl ?_
    refine k_callVsi [] dX7_readWord_25 s_X7_readWord_61 rfl (m_strLength hu hv) rfl hu rfl (Nat.le_of_ble_eq_true rfl) ?_
    rintro _ _ ⟨rfl, rfl⟩
    refine k_icmp_eq 33 dX7_readWord_28 (by decide) ⟨by omega, by omega⟩ ⟨by omega, by omega⟩ (fun h28 => ?_) (fun h28 => ?_)
    · skip
      refine k_iconst dX7_readWord_33 ?_
      refine k_istore_n (L' := [_, _, _, _]) dX7_readWord_34 (Nat.le_of_ble_eq_true rfl) rfl ?_
      exact lp_readWord hG hu hv rfl (by omega) rfl (by omega) he.2 0 (by omega) rfl
    · skip
      refine k_iconst dX7_readWord_31 ?_
      exact k_zret dX7_readWord_32 rfl (Or.inl rfl) ⟨_, rfl, by unfold bI; exact if_neg (fun z => by unfold wOk at z; simp only [Bool.and_eq_true, decide_eq_true_eq] at z; omega), by unfold wTo; rw [if_neg (fun z => by unfold wOk at z; simp only [Bool.and_eq_true, decide_eq_true_eq] at z; omega)]⟩
  · skip
    refine k_iconst dX7_readWord_7 ?_
    exact k_zret dX7_readWord_8 rfl (Or.inl rfl) ⟨_, rfl, by unfold bI; exact if_neg (fun z => by unfold wOk at z; simp only [Bool.and_eq_true, decide_eq_true_eq] at z; omega), by unfold wTo; rw [if_neg (fun z => by unfold wOk at z; simp only [Bool.and_eq_true, decide_eq_true_eq] at z; omega)]⟩
/-! ===== items ===== -/
theorem Tok.of {G G1 : Mem} (h : Tok G) (h1 : G1 53 1 = G 53 1) (h2 : ∀ j, G1 54 j = G 54 j) : Tok G1 := ⟨by rw [h1]; exact h.1, fun j => by rw [h2]; exact h.2 j⟩
abbrev gT (G : Mem) : Nat → Int := G 54
def riP1 (T : Nat → Int) (L p : Nat) : Nat := wTo T L 0 p
def riP2 (T : Nat → Int) (L p : Nat) : Nat := nTo T L 0 47 (riP1 T L p)
def riP3 (T : Nat → Int) (L p : Nat) : Nat := nTo T L 0 2 (riP2 T L p)
def riS (T : Nat → Int) (L p : Nat) : Int := nVal T L 0 47 (riP1 T L p)
def riL (T : Nat → Int) (L p : Nat) : Int := nVal T L 0 2 (riP2 T L p)
def riO (T : Nat → Int) (L p : Nat) : Bool := wOk T L 0 p && (decide (0 ≤ riS T L p) && (decide (0 ≤ riL T L p) && sOk T L (riP3 T L p)))
theorem riO_iff {T : Nat → Int} {L p : Nat} : riO T L p = true ↔ (wOk T L 0 p = true ∧ 0 ≤ riS T L p ∧ 0 ≤ riL T L p ∧ sOk T L (riP3 T L p) = true) := by
  unfold riO
  simp only [Bool.and_eq_true, decide_eq_true_eq]
def riE (T : Nat → Int) (L p : Nat) : Nat := if ¬ wOk T L 0 p = true then riP1 T L p else if riS T L p < 0 then riP2 T L p else if riL T L p < 0 then riP3 T L p else sTo T L (riP3 T L p)
def ciP1 (T : Nat → Int) (L p : Nat) : Nat := wTo T L 1 p
def ciP2 (T : Nat → Int) (L p : Nat) : Nat := nTo T L 0 5 (ciP1 T L p)
def ciP3 (T : Nat → Int) (L p : Nat) : Nat := nTo T L 1 9 (ciP2 T L p)
def ciP4 (T : Nat → Int) (L p : Nat) : Nat := nTo T L 0 47 (ciP3 T L p)
def ciP5 (T : Nat → Int) (L p : Nat) : Nat := nTo T L 0 3 (ciP4 T L p)
def ciP6 (T : Nat → Int) (L p : Nat) : Nat := nTo T L 0 60 (ciP5 T L p)
def ciK (T : Nat → Int) (L p : Nat) : Int := nVal T L 0 5 (ciP1 T L p)
def ciH (T : Nat → Int) (L p : Nat) : Int := nVal T L 1 9 (ciP2 T L p)
def ciC (T : Nat → Int) (L p : Nat) : Int := nVal T L 0 47 (ciP3 T L p)
def ciS (T : Nat → Int) (L p : Nat) : Int := nVal T L 0 3 (ciP4 T L p)
def ciB (T : Nat → Int) (L p : Nat) : Int := nVal T L 0 60 (ciP5 T L p)
def ciO (T : Nat → Int) (L p : Nat) : Bool := wOk T L 1 p && (decide (0 ≤ ciK T L p) && (decide (0 ≤ ciH T L p) && (decide (0 ≤ ciC T L p) && (decide (0 ≤ ciS T L p) && (decide (0 ≤ ciB T L p) && sOk T L (ciP6 T L p))))))
theorem ciO_iff {T : Nat → Int} {L p : Nat} : ciO T L p = true ↔ (wOk T L 1 p = true ∧ 0 ≤ ciK T L p ∧ 0 ≤ ciH T L p ∧ 0 ≤ ciC T L p ∧ 0 ≤ ciS T L p ∧ 0 ≤ ciB T L p ∧ sOk T L (ciP6 T L p) = true) := by
  unfold ciO
  simp only [Bool.and_eq_true, decide_eq_true_eq]
def ciE (T : Nat → Int) (L p : Nat) : Nat := if ¬ wOk T L 1 p = true then ciP1 T L p else if ciK T L p < 0 then ciP2 T L p else if ciH T L p < 0 then ciP3 T L p else if ciC T L p < 0 then ciP4 T L p else if ciS T L p < 0 then ciP5 T L p else if ciB T L p < 0 then ciP6 T L p else sTo T L (ciP6 T L p)
theorem rBegin_tp {G : Mem} {r p : Nat} {s l : Int} (hr : r + 12 < 53) : rBegin (tp G p) r s l = tp (rBegin G r s l) p := by
  funext a b
  unfold rBegin tp
  by_cases e : a = 53 ∧ b = 2
  · obtain ⟨rfl, rfl⟩ := e
    simp (disch := omega) only [ug_nc, ug_at]
  · rw [ug_ne e]
    simp only [ug]
    simp only [e, if_false]
theorem rAdd_tp {G : Mem} {r p : Nat} {k h c s b : Int} (hr : r + 12 < 53) : rAdd (tp G p) r k h c s b = tp (rAdd G r k h c s b) p := by
  have e2 : tp G p r 2 = G r 2 := tp_ne (by omega)
  unfold rAdd
  rw [e2]
  split
  · rfl
  · funext x y
    unfold tp
    by_cases e : x = 53 ∧ y = 2
    · obtain ⟨rfl, rfl⟩ := e
      simp (disch := omega) only [ug_nc, ug_at]
    · rw [ug_ne e]
      simp only [ug]
      simp only [e, if_false]
theorem m_readRoadItem {G : Mem} (hG : Tok G) {r : Nat} (hr : Rd r) (hr5 : r + 12 < 53) {p : Nat} (hp : p ≤ tL G) : MP M_X7_readRoadItem [.ref 53, .ref r] (tp G p) (vi fun v g => bI (riO (G 54) (tL G) p = true) = v ∧ (if riO (G 54) (tL G) p = true then tp (rBegin G r (riS (G 54) (tL G) p) (riL (G 54) (tL G) p)) (riE (G 54) (tL G) p) else tp G (riE (G 54) (tL G) p)) = g) := by
  have b1 : riP1 (G 54) (tL G) p ≤ tL G := wTo_b hp
  have b2 : riP2 (G 54) (tL G) p ≤ tL G := nTo_b b1
  have b3 : riP3 (G 54) (tL G) p ≤ tL G := nTo_b b2
  have n1 : riS (G 54) (tL G) p = -1 ∨ (0 ≤ riS (G 54) (tL G) p ∧ riS (G 54) (tL G) p ≤ 47) := nVal_b
  have n2 : riL (G 54) (tL G) p = -1 ∨ (0 ≤ riL (G 54) (tL G) p ∧ riL (G 54) (tL G) p ≤ 2) := nVal_b
  refine MP.of [some (.ref 53), some (.ref r), none, none] (plainFor_of_name pn_X7) (Nat.le_of_ble_eq_true rfl) rfl ?_
  refine k_aload_n dX7_readRoadItem_0 rfl ?_
  refine k_ldcS0 dX7_readRoadItem_1 rfl ?_
  refine k_callVi [.float _] dX7_readRoadItem_3 s_X7_readRoadItem_35 rfl (m_readWord (u := 0) (v := 100) hG (by decide) (by decide) hp) rfl (Nat.le_of_ble_eq_true rfl) sh_o53 ⟨_, rfl, rfl⟩ (Nat.le_of_ble_eq_true rfl) ?_
  rintro _ _ ⟨rfl, rfl⟩
  rw [show wTo (G 54) (tL G) (0 : UInt32).toNat p = riP1 (G 54) (tL G) p from rfl]
  change RP _ _ _ (.int (iI (bI (wOk (G 54) (tL G) 0 p = true))) :: _) _ _
  refine k_ifb_ne 11 dX7_readRoadItem_6 (by decide) (fun h6 => ?_) (fun h6 => ?_)
  · skip
    refine k_aload_n dX7_readRoadItem_11 rfl ?_
    refine k_iconst dX7_readRoadItem_12 ?_
    refine k_bipush dX7_readRoadItem_13 (by decide) ?_
    refine k_callVi [.int (iI _), .int (iI _)] dX7_readRoadItem_15 s_X7_readRoadItem_39 rfl (m_readNumber (lo := 0) (hi := 47) hG ⟨by decide, by decide⟩ ⟨by decide, by decide⟩ b1) rfl (Nat.le_of_ble_eq_true rfl) sh_o53 ⟨_, rfl, rfl⟩ (Nat.le_of_ble_eq_true rfl) ?_
    rintro _ _ ⟨rfl, rfl⟩
    rw [show nVal (G 54) (tL G) 0 47 (riP1 (G 54) (tL G) p) = riS (G 54) (tL G) p from rfl, show nTo (G 54) (tL G) 0 47 (riP1 (G 54) (tL G) p) = riP2 (G 54) (tL G) p from rfl]
    refine k_istore_n (L' := [_, _, _, _]) dX7_readRoadItem_18 (Nat.le_of_ble_eq_true rfl) rfl ?_
    refine k_iload_n dX7_readRoadItem_19 rfl ?_
    refine k_if_ge 27 dX7_readRoadItem_20 (by decide) ⟨by omega, by omega⟩ (fun h20 => ?_) (fun h20 => ?_)
    · skip
      refine k_aload_n dX7_readRoadItem_27 rfl ?_
      refine k_iconst dX7_readRoadItem_28 ?_
      refine k_iconst dX7_readRoadItem_29 ?_
      refine k_callVi [.int (iI _), .int (iI _)] dX7_readRoadItem_30 s_X7_readRoadItem_39 rfl (m_readNumber (lo := 0) (hi := 2) hG ⟨by decide, by decide⟩ ⟨by decide, by decide⟩ b2) rfl (Nat.le_of_ble_eq_true rfl) sh_o53 ⟨_, rfl, rfl⟩ (Nat.le_of_ble_eq_true rfl) ?_
      rintro _ _ ⟨rfl, rfl⟩
      rw [show nVal (G 54) (tL G) 0 2 (riP2 (G 54) (tL G) p) = riL (G 54) (tL G) p from rfl, show nTo (G 54) (tL G) 0 2 (riP2 (G 54) (tL G) p) = riP3 (G 54) (tL G) p from rfl]
      refine k_istore_n (L' := [_, _, _, _]) dX7_readRoadItem_33 (Nat.le_of_ble_eq_true rfl) rfl ?_
      refine k_iload_n dX7_readRoadItem_34 rfl ?_
      refine k_if_lt 45 dX7_readRoadItem_35 (by decide) ⟨by omega, by omega⟩ (fun h35 => ?_) (fun h35 => ?_)
      · skip
        refine k_iconst dX7_readRoadItem_45 ?_
        exact k_zret dX7_readRoadItem_46 rfl (Or.inl rfl) ⟨_, rfl, by unfold bI; exact if_neg (fun z => by obtain ⟨z0, z1, z2, z3⟩ := riO_iff.mp z; first | contradiction | omega), by rw [if_neg (fun z => by obtain ⟨z0, z1, z2, z3⟩ := riO_iff.mp z; first | contradiction | omega)]; congr 1; unfold riE; (repeat' split) <;> first | rfl | contradiction | (exfalso; omega)⟩
      · skip
        refine k_aload_n dX7_readRoadItem_38 rfl ?_
        refine k_callVi [] dX7_readRoadItem_39 s_X7_readRoadItem_43 rfl (m_readSemicolon hG b3) rfl (Nat.le_of_ble_eq_true rfl) sh_o53 ⟨_, rfl, rfl⟩ (Nat.le_of_ble_eq_true rfl) ?_
        rintro _ _ ⟨rfl, rfl⟩
        refine k_ifb_ne 47 dX7_readRoadItem_42 (by decide) (fun h42 => ?_) (fun h42 => ?_)
        · skip
          refine k_aload_n dX7_readRoadItem_47 rfl ?_
          refine k_iload_n dX7_readRoadItem_48 rfl ?_
          refine k_iload_n dX7_readRoadItem_49 rfl ?_
          refine k_callVv [.int (iI _), .int (iI _)] dX7_readRoadItem_50 s_X7_readRoadItem_46 rfl (m_begin hr) rfl (Rd.l0 hr) (Rd.o hr) ⟨_, rfl, rfl⟩ (Nat.le_of_ble_eq_true rfl) ?_
          rintro _ rfl
          refine k_iconst dX7_readRoadItem_53 ?_
          exact k_zret dX7_readRoadItem_54 rfl (Or.inr rfl) ⟨_, rfl, by unfold bI; exact if_pos (riO_iff.mpr ⟨h6, by omega, by omega, h42⟩), by rw [if_pos (riO_iff.mpr ⟨h6, by omega, by omega, h42⟩), rBegin_tp hr5, show riE (G 54) (tL G) p = sTo (G 54) (tL G) (riP3 (G 54) (tL G) p) from by unfold riE; rw [if_neg (fun z => z h6), if_neg (by omega), if_neg (by omega)]]⟩
        · skip
          refine k_iconst dX7_readRoadItem_45 ?_
          exact k_zret dX7_readRoadItem_46 rfl (Or.inl rfl) ⟨_, rfl, by unfold bI; exact if_neg (fun z => by obtain ⟨z0, z1, z2, z3⟩ := riO_iff.mp z; first | contradiction | omega), by rw [if_neg (fun z => by obtain ⟨z0, z1, z2, z3⟩ := riO_iff.mp z; first | contradiction | omega)]; congr 1; unfold riE; (repeat' split) <;> first | rfl | contradiction | (exfalso; omega)⟩
    · skip
      refine k_iconst dX7_readRoadItem_23 ?_
      refine k_goto 33 dX7_readRoadItem_24 (by decide) ?_
      refine k_istore_n (L' := [_, _, _, _]) dX7_readRoadItem_33 (Nat.le_of_ble_eq_true rfl) rfl ?_
      refine k_iload_n dX7_readRoadItem_34 rfl ?_
      refine k_if_lt 45 dX7_readRoadItem_35 (by decide) ⟨by decide, by decide⟩ (fun _ => ?_) (fun h => False.elim (by revert h; decide))
      refine k_iconst dX7_readRoadItem_45 ?_
      exact k_zret dX7_readRoadItem_46 rfl (Or.inl rfl) ⟨_, rfl, by unfold bI; exact if_neg (fun z => by obtain ⟨z0, z1, z2, z3⟩ := riO_iff.mp z; first | contradiction | omega), by rw [if_neg (fun z => by obtain ⟨z0, z1, z2, z3⟩ := riO_iff.mp z; first | contradiction | omega)]; congr 1; unfold riE; (repeat' split) <;> first | rfl | contradiction | (exfalso; omega)⟩
  · skip
    refine k_iconst dX7_readRoadItem_9 ?_
    exact k_zret dX7_readRoadItem_10 rfl (Or.inl rfl) ⟨_, rfl, by unfold bI; exact if_neg (fun z => by obtain ⟨z0, z1, z2, z3⟩ := riO_iff.mp z; first | contradiction | omega), by rw [if_neg (fun z => by obtain ⟨z0, z1, z2, z3⟩ := riO_iff.mp z; first | contradiction | omega)]; congr 1; unfold riE; (repeat' split) <;> first | rfl | contradiction | (exfalso; omega)⟩
theorem m_readChildItem {G : Mem} (hG : Tok G) {r : Nat} (hr : Rd r) (hr5 : r + 12 < 53) (hn : 0 ≤ G r 2 ∧ G r 2 ≤ 6) {p : Nat} (hp : p ≤ tL G) : MP M_X7_readChildItem [.ref 53, .ref r] (tp G p) (vi fun v g => bI (ciO (G 54) (tL G) p = true) = v ∧ (if ciO (G 54) (tL G) p = true then tp (rAdd G r (ciK (G 54) (tL G) p) (ciH (G 54) (tL G) p) (ciC (G 54) (tL G) p) (ciS (G 54) (tL G) p) (ciB (G 54) (tL G) p)) (ciE (G 54) (tL G) p) else tp G (ciE (G 54) (tL G) p)) = g) := by
  have b1 : ciP1 (G 54) (tL G) p ≤ tL G := wTo_b hp
  have b2 : ciP2 (G 54) (tL G) p ≤ tL G := nTo_b b1
  have b3 : ciP3 (G 54) (tL G) p ≤ tL G := nTo_b b2
  have b4 : ciP4 (G 54) (tL G) p ≤ tL G := nTo_b b3
  have b5 : ciP5 (G 54) (tL G) p ≤ tL G := nTo_b b4
  have b6 : ciP6 (G 54) (tL G) p ≤ tL G := nTo_b b5
  have n1 : ciK (G 54) (tL G) p = -1 ∨ (0 ≤ ciK (G 54) (tL G) p ∧ ciK (G 54) (tL G) p ≤ 5) := nVal_b
  have n2 : ciH (G 54) (tL G) p = -1 ∨ (1 ≤ ciH (G 54) (tL G) p ∧ ciH (G 54) (tL G) p ≤ 9) := nVal_b
  have n3 : ciC (G 54) (tL G) p = -1 ∨ (0 ≤ ciC (G 54) (tL G) p ∧ ciC (G 54) (tL G) p ≤ 47) := nVal_b
  have n4 : ciS (G 54) (tL G) p = -1 ∨ (0 ≤ ciS (G 54) (tL G) p ∧ ciS (G 54) (tL G) p ≤ 3) := nVal_b
  have n5 : ciB (G 54) (tL G) p = -1 ∨ (0 ≤ ciB (G 54) (tL G) p ∧ ciB (G 54) (tL G) p ≤ 60) := nVal_b
  refine MP.of [some (.ref 53), some (.ref r), none, none, none, none, none] (plainFor_of_name pn_X7) (Nat.le_of_ble_eq_true rfl) rfl ?_
  refine k_aload_n dX7_readChildItem_0 rfl ?_
  refine k_ldcS1 dX7_readChildItem_1 rfl ?_
  refine k_callVi [.float _] dX7_readChildItem_3 s_X7_readChildItem_35 rfl (m_readWord (u := 1) (v := 101) hG (by decide) (by decide) hp) rfl (Nat.le_of_ble_eq_true rfl) sh_o53 ⟨_, rfl, rfl⟩ (Nat.le_of_ble_eq_true rfl) ?_
  rintro _ _ ⟨rfl, rfl⟩
  rw [show wTo (G 54) (tL G) (1 : UInt32).toNat p = ciP1 (G 54) (tL G) p from rfl]
  change RP _ _ _ (.int (iI (bI (wOk (G 54) (tL G) 1 p = true))) :: _) _ _
  refine k_ifb_ne 11 dX7_readChildItem_6 (by decide) (fun h6 => ?_) (fun h6 => ?_)
  · skip
    refine k_aload_n dX7_readChildItem_11 rfl ?_
    refine k_iconst dX7_readChildItem_12 ?_
    refine k_iconst dX7_readChildItem_13 ?_
    refine k_callVi [.int (iI _), .int (iI _)] dX7_readChildItem_14 s_X7_readChildItem_39 rfl (m_readNumber (lo := 0) (hi := 5) hG ⟨by decide, by decide⟩ ⟨by decide, by decide⟩ b1) rfl (Nat.le_of_ble_eq_true rfl) sh_o53 ⟨_, rfl, rfl⟩ (Nat.le_of_ble_eq_true rfl) ?_
    rintro _ _ ⟨rfl, rfl⟩
    rw [show nVal (G 54) (tL G) 0 5 (ciP1 (G 54) (tL G) p) = ciK (G 54) (tL G) p from rfl, show nTo (G 54) (tL G) 0 5 (ciP1 (G 54) (tL G) p) = ciP2 (G 54) (tL G) p from rfl]
    refine k_istore_n (L' := [_, _, _, _, _, _, _]) dX7_readChildItem_17 (Nat.le_of_ble_eq_true rfl) rfl ?_
    refine k_iload_n dX7_readChildItem_18 rfl ?_
    refine k_if_ge 26 dX7_readChildItem_19 (by decide) ⟨by omega, by omega⟩ (fun h19 => ?_) (fun h19 => ?_)
    · skip
      refine k_aload_n dX7_readChildItem_26 rfl ?_
      refine k_iconst dX7_readChildItem_27 ?_
      refine k_bipush dX7_readChildItem_28 (by decide) ?_
      refine k_callVi [.int (iI _), .int (iI _)] dX7_readChildItem_30 s_X7_readChildItem_39 rfl (m_readNumber (lo := 1) (hi := 9) hG ⟨by decide, by decide⟩ ⟨by decide, by decide⟩ b2) rfl (Nat.le_of_ble_eq_true rfl) sh_o53 ⟨_, rfl, rfl⟩ (Nat.le_of_ble_eq_true rfl) ?_
      rintro _ _ ⟨rfl, rfl⟩
      rw [show nVal (G 54) (tL G) 1 9 (ciP2 (G 54) (tL G) p) = ciH (G 54) (tL G) p from rfl, show nTo (G 54) (tL G) 1 9 (ciP2 (G 54) (tL G) p) = ciP3 (G 54) (tL G) p from rfl]
      refine k_istore_n (L' := [_, _, _, _, _, _, _]) dX7_readChildItem_33 (Nat.le_of_ble_eq_true rfl) rfl ?_
      refine k_iload_n dX7_readChildItem_34 rfl ?_
      refine k_if_ge 42 dX7_readChildItem_35 (by decide) ⟨by omega, by omega⟩ (fun h35 => ?_) (fun h35 => ?_)
      · skip
        refine k_aload_n dX7_readChildItem_42 rfl ?_
        refine k_iconst dX7_readChildItem_43 ?_
        refine k_bipush dX7_readChildItem_44 (by decide) ?_
        refine k_callVi [.int (iI _), .int (iI _)] dX7_readChildItem_46 s_X7_readChildItem_39 rfl (m_readNumber (lo := 0) (hi := 47) hG ⟨by decide, by decide⟩ ⟨by decide, by decide⟩ b3) rfl (Nat.le_of_ble_eq_true rfl) sh_o53 ⟨_, rfl, rfl⟩ (Nat.le_of_ble_eq_true rfl) ?_
        rintro _ _ ⟨rfl, rfl⟩
        rw [show nVal (G 54) (tL G) 0 47 (ciP3 (G 54) (tL G) p) = ciC (G 54) (tL G) p from rfl, show nTo (G 54) (tL G) 0 47 (ciP3 (G 54) (tL G) p) = ciP4 (G 54) (tL G) p from rfl]
        refine k_istore (L' := [_, _, _, _, _, _, _]) dX7_readChildItem_49 (Nat.le_of_ble_eq_true rfl) rfl ?_
        refine k_iload dX7_readChildItem_51 rfl ?_
        refine k_if_ge 60 dX7_readChildItem_53 (by decide) ⟨by omega, by omega⟩ (fun h53 => ?_) (fun h53 => ?_)
        · skip
          refine k_aload_n dX7_readChildItem_60 rfl ?_
          refine k_iconst dX7_readChildItem_61 ?_
          refine k_iconst dX7_readChildItem_62 ?_
          refine k_callVi [.int (iI _), .int (iI _)] dX7_readChildItem_63 s_X7_readChildItem_39 rfl (m_readNumber (lo := 0) (hi := 3) hG ⟨by decide, by decide⟩ ⟨by decide, by decide⟩ b4) rfl (Nat.le_of_ble_eq_true rfl) sh_o53 ⟨_, rfl, rfl⟩ (Nat.le_of_ble_eq_true rfl) ?_
          rintro _ _ ⟨rfl, rfl⟩
          rw [show nVal (G 54) (tL G) 0 3 (ciP4 (G 54) (tL G) p) = ciS (G 54) (tL G) p from rfl, show nTo (G 54) (tL G) 0 3 (ciP4 (G 54) (tL G) p) = ciP5 (G 54) (tL G) p from rfl]
          refine k_istore (L' := [_, _, _, _, _, _, _]) dX7_readChildItem_66 (Nat.le_of_ble_eq_true rfl) rfl ?_
          refine k_iload dX7_readChildItem_68 rfl ?_
          refine k_if_ge 77 dX7_readChildItem_70 (by decide) ⟨by omega, by omega⟩ (fun h70 => ?_) (fun h70 => ?_)
          · skip
            refine k_aload_n dX7_readChildItem_77 rfl ?_
            refine k_iconst dX7_readChildItem_78 ?_
            refine k_bipush dX7_readChildItem_79 (by decide) ?_
            refine k_callVi [.int (iI _), .int (iI _)] dX7_readChildItem_81 s_X7_readChildItem_39 rfl (m_readNumber (lo := 0) (hi := 60) hG ⟨by decide, by decide⟩ ⟨by decide, by decide⟩ b5) rfl (Nat.le_of_ble_eq_true rfl) sh_o53 ⟨_, rfl, rfl⟩ (Nat.le_of_ble_eq_true rfl) ?_
            rintro _ _ ⟨rfl, rfl⟩
            rw [show nVal (G 54) (tL G) 0 60 (ciP5 (G 54) (tL G) p) = ciB (G 54) (tL G) p from rfl, show nTo (G 54) (tL G) 0 60 (ciP5 (G 54) (tL G) p) = ciP6 (G 54) (tL G) p from rfl]
            refine k_istore (L' := [_, _, _, _, _, _, _]) dX7_readChildItem_84 (Nat.le_of_ble_eq_true rfl) rfl ?_
            refine k_iload dX7_readChildItem_86 rfl ?_
            refine k_if_lt 98 dX7_readChildItem_88 (by decide) ⟨by omega, by omega⟩ (fun h88 => ?_) (fun h88 => ?_)
            · skip
              refine k_iconst dX7_readChildItem_98 ?_
              exact k_zret dX7_readChildItem_99 rfl (Or.inl rfl) ⟨_, rfl, by unfold bI; exact if_neg (fun z => by obtain ⟨z0, z1, z2, z3, z4, z5, z6⟩ := ciO_iff.mp z; first | contradiction | omega), by rw [if_neg (fun z => by obtain ⟨z0, z1, z2, z3, z4, z5, z6⟩ := ciO_iff.mp z; first | contradiction | omega)]; congr 1; unfold ciE; (repeat' split) <;> first | rfl | contradiction | (exfalso; omega)⟩
            · skip
              refine k_aload_n dX7_readChildItem_91 rfl ?_
              refine k_callVi [] dX7_readChildItem_92 s_X7_readChildItem_43 rfl (m_readSemicolon hG b6) rfl (Nat.le_of_ble_eq_true rfl) sh_o53 ⟨_, rfl, rfl⟩ (Nat.le_of_ble_eq_true rfl) ?_
              rintro _ _ ⟨rfl, rfl⟩
              refine k_ifb_ne 100 dX7_readChildItem_95 (by decide) (fun h95 => ?_) (fun h95 => ?_)
              · skip
                refine k_aload_n dX7_readChildItem_100 rfl ?_
                refine k_iload_n dX7_readChildItem_101 rfl ?_
                refine k_iload_n dX7_readChildItem_102 rfl ?_
                refine k_iload dX7_readChildItem_103 rfl ?_
                refine k_iload dX7_readChildItem_105 rfl ?_
                refine k_iload dX7_readChildItem_107 rfl ?_
                refine k_callVv [.int (iI _), .int (iI _), .int (iI _), .int (iI _), .int (iI _)] dX7_readChildItem_109 s_X7_readChildItem_54 rfl (m_addChild hr (by rw [tp_ne (by omega)]; exact hn)) rfl (Rd.l0 hr) (Rd.o hr) ⟨_, rfl, rfl⟩ (Nat.le_of_ble_eq_true rfl) ?_
                rintro _ rfl
                refine k_iconst dX7_readChildItem_112 ?_
                exact k_zret dX7_readChildItem_113 rfl (Or.inr rfl) ⟨_, rfl, by unfold bI; exact if_pos (ciO_iff.mpr ⟨h6, by omega, by omega, by omega, by omega, by omega, h95⟩), by rw [if_pos (ciO_iff.mpr ⟨h6, by omega, by omega, by omega, by omega, by omega, h95⟩), rAdd_tp hr5, show ciE (G 54) (tL G) p = sTo (G 54) (tL G) (ciP6 (G 54) (tL G) p) from by unfold ciE; rw [if_neg (fun z => z h6), if_neg (by omega), if_neg (by omega), if_neg (by omega), if_neg (by omega), if_neg (by omega)]]⟩
              · skip
                refine k_iconst dX7_readChildItem_98 ?_
                exact k_zret dX7_readChildItem_99 rfl (Or.inl rfl) ⟨_, rfl, by unfold bI; exact if_neg (fun z => by obtain ⟨z0, z1, z2, z3, z4, z5, z6⟩ := ciO_iff.mp z; first | contradiction | omega), by rw [if_neg (fun z => by obtain ⟨z0, z1, z2, z3, z4, z5, z6⟩ := ciO_iff.mp z; first | contradiction | omega)]; congr 1; unfold ciE; (repeat' split) <;> first | rfl | contradiction | (exfalso; omega)⟩
          · skip
            refine k_iconst dX7_readChildItem_73 ?_
            refine k_goto 84 dX7_readChildItem_74 (by decide) ?_
            refine k_istore (L' := [_, _, _, _, _, _, _]) dX7_readChildItem_84 (Nat.le_of_ble_eq_true rfl) rfl ?_
            refine k_iload dX7_readChildItem_86 rfl ?_
            refine k_if_lt 98 dX7_readChildItem_88 (by decide) ⟨by decide, by decide⟩ (fun _ => ?_) (fun h => False.elim (by revert h; decide))
            refine k_iconst dX7_readChildItem_98 ?_
            exact k_zret dX7_readChildItem_99 rfl (Or.inl rfl) ⟨_, rfl, by unfold bI; exact if_neg (fun z => by obtain ⟨z0, z1, z2, z3, z4, z5, z6⟩ := ciO_iff.mp z; first | contradiction | omega), by rw [if_neg (fun z => by obtain ⟨z0, z1, z2, z3, z4, z5, z6⟩ := ciO_iff.mp z; first | contradiction | omega)]; congr 1; unfold ciE; (repeat' split) <;> first | rfl | contradiction | (exfalso; omega)⟩
        · skip
          refine k_iconst dX7_readChildItem_56 ?_
          refine k_goto 66 dX7_readChildItem_57 (by decide) ?_
          refine k_istore (L' := [_, _, _, _, _, _, _]) dX7_readChildItem_66 (Nat.le_of_ble_eq_true rfl) rfl ?_
          refine k_iload dX7_readChildItem_68 rfl ?_
          refine k_if_ge 77 dX7_readChildItem_70 (by decide) ⟨by decide, by decide⟩ (fun h => False.elim (by revert h; decide)) (fun _ => ?_)
          refine k_iconst dX7_readChildItem_73 ?_
          refine k_goto 84 dX7_readChildItem_74 (by decide) ?_
          refine k_istore (L' := [_, _, _, _, _, _, _]) dX7_readChildItem_84 (Nat.le_of_ble_eq_true rfl) rfl ?_
          refine k_iload dX7_readChildItem_86 rfl ?_
          refine k_if_lt 98 dX7_readChildItem_88 (by decide) ⟨by decide, by decide⟩ (fun _ => ?_) (fun h => False.elim (by revert h; decide))
          refine k_iconst dX7_readChildItem_98 ?_
          exact k_zret dX7_readChildItem_99 rfl (Or.inl rfl) ⟨_, rfl, by unfold bI; exact if_neg (fun z => by obtain ⟨z0, z1, z2, z3, z4, z5, z6⟩ := ciO_iff.mp z; first | contradiction | omega), by rw [if_neg (fun z => by obtain ⟨z0, z1, z2, z3, z4, z5, z6⟩ := ciO_iff.mp z; first | contradiction | omega)]; congr 1; unfold ciE; (repeat' split) <;> first | rfl | contradiction | (exfalso; omega)⟩
      · skip
        refine k_iconst dX7_readChildItem_38 ?_
        refine k_goto 49 dX7_readChildItem_39 (by decide) ?_
        refine k_istore (L' := [_, _, _, _, _, _, _]) dX7_readChildItem_49 (Nat.le_of_ble_eq_true rfl) rfl ?_
        refine k_iload dX7_readChildItem_51 rfl ?_
        refine k_if_ge 60 dX7_readChildItem_53 (by decide) ⟨by decide, by decide⟩ (fun h => False.elim (by revert h; decide)) (fun _ => ?_)
        refine k_iconst dX7_readChildItem_56 ?_
        refine k_goto 66 dX7_readChildItem_57 (by decide) ?_
        refine k_istore (L' := [_, _, _, _, _, _, _]) dX7_readChildItem_66 (Nat.le_of_ble_eq_true rfl) rfl ?_
        refine k_iload dX7_readChildItem_68 rfl ?_
        refine k_if_ge 77 dX7_readChildItem_70 (by decide) ⟨by decide, by decide⟩ (fun h => False.elim (by revert h; decide)) (fun _ => ?_)
        refine k_iconst dX7_readChildItem_73 ?_
        refine k_goto 84 dX7_readChildItem_74 (by decide) ?_
        refine k_istore (L' := [_, _, _, _, _, _, _]) dX7_readChildItem_84 (Nat.le_of_ble_eq_true rfl) rfl ?_
        refine k_iload dX7_readChildItem_86 rfl ?_
        refine k_if_lt 98 dX7_readChildItem_88 (by decide) ⟨by decide, by decide⟩ (fun _ => ?_) (fun h => False.elim (by revert h; decide))
        refine k_iconst dX7_readChildItem_98 ?_
        exact k_zret dX7_readChildItem_99 rfl (Or.inl rfl) ⟨_, rfl, by unfold bI; exact if_neg (fun z => by obtain ⟨z0, z1, z2, z3, z4, z5, z6⟩ := ciO_iff.mp z; first | contradiction | omega), by rw [if_neg (fun z => by obtain ⟨z0, z1, z2, z3, z4, z5, z6⟩ := ciO_iff.mp z; first | contradiction | omega)]; congr 1; unfold ciE; (repeat' split) <;> first | rfl | contradiction | (exfalso; omega)⟩
    · skip
      refine k_iconst dX7_readChildItem_22 ?_
      refine k_goto 33 dX7_readChildItem_23 (by decide) ?_
      refine k_istore_n (L' := [_, _, _, _, _, _, _]) dX7_readChildItem_33 (Nat.le_of_ble_eq_true rfl) rfl ?_
      refine k_iload_n dX7_readChildItem_34 rfl ?_
      refine k_if_ge 42 dX7_readChildItem_35 (by decide) ⟨by decide, by decide⟩ (fun h => False.elim (by revert h; decide)) (fun _ => ?_)
      refine k_iconst dX7_readChildItem_38 ?_
      refine k_goto 49 dX7_readChildItem_39 (by decide) ?_
      refine k_istore (L' := [_, _, _, _, _, _, _]) dX7_readChildItem_49 (Nat.le_of_ble_eq_true rfl) rfl ?_
      refine k_iload dX7_readChildItem_51 rfl ?_
      refine k_if_ge 60 dX7_readChildItem_53 (by decide) ⟨by decide, by decide⟩ (fun h => False.elim (by revert h; decide)) (fun _ => ?_)
      refine k_iconst dX7_readChildItem_56 ?_
      refine k_goto 66 dX7_readChildItem_57 (by decide) ?_
      refine k_istore (L' := [_, _, _, _, _, _, _]) dX7_readChildItem_66 (Nat.le_of_ble_eq_true rfl) rfl ?_
      refine k_iload dX7_readChildItem_68 rfl ?_
      refine k_if_ge 77 dX7_readChildItem_70 (by decide) ⟨by decide, by decide⟩ (fun h => False.elim (by revert h; decide)) (fun _ => ?_)
      refine k_iconst dX7_readChildItem_73 ?_
      refine k_goto 84 dX7_readChildItem_74 (by decide) ?_
      refine k_istore (L' := [_, _, _, _, _, _, _]) dX7_readChildItem_84 (Nat.le_of_ble_eq_true rfl) rfl ?_
      refine k_iload dX7_readChildItem_86 rfl ?_
      refine k_if_lt 98 dX7_readChildItem_88 (by decide) ⟨by decide, by decide⟩ (fun _ => ?_) (fun h => False.elim (by revert h; decide))
      refine k_iconst dX7_readChildItem_98 ?_
      exact k_zret dX7_readChildItem_99 rfl (Or.inl rfl) ⟨_, rfl, by unfold bI; exact if_neg (fun z => by obtain ⟨z0, z1, z2, z3, z4, z5, z6⟩ := ciO_iff.mp z; first | contradiction | omega), by rw [if_neg (fun z => by obtain ⟨z0, z1, z2, z3, z4, z5, z6⟩ := ciO_iff.mp z; first | contradiction | omega)]; congr 1; unfold ciE; (repeat' split) <;> first | rfl | contradiction | (exfalso; omega)⟩
  · skip
    refine k_iconst dX7_readChildItem_9 ?_
    exact k_zret dX7_readChildItem_10 rfl (Or.inl rfl) ⟨_, rfl, by unfold bI; exact if_neg (fun z => by obtain ⟨z0, z1, z2, z3, z4, z5, z6⟩ := ciO_iff.mp z; first | contradiction | omega), by rw [if_neg (fun z => by obtain ⟨z0, z1, z2, z3, z4, z5, z6⟩ := ciO_iff.mp z; first | contradiction | omega)]; congr 1; unfold ciE; (repeat' split) <;> first | rfl | contradiction | (exfalso; omega)⟩
