/-! ===== the Model: tokens of the text ===== -/
/-- the bytes that were typed -/
def BT (T : Nat → Int) (L : Nat) (G : Mem) : Prop := G 86 15 = (L : Int) ∧ L ≤ 150 ∧ ∀ j, j < L → G 98 j = T j
def TB (T : Nat → Int) : Prop := ∀ j, 0 ≤ T j ∧ T j ≤ 255
/-- only the token has changed -/
def TF (G g : Mem) : Prop := ∀ a b, ¬ (a = 86 ∧ 16 ≤ b ∧ b ≤ 19) → g a b = G a b
theorem TF.rf {G : Mem} : TF G G := fun _ _ _ => rfl
theorem TF.tr {G g k : Mem} (h1 : TF G g) (h2 : TF g k) : TF G k := fun a b x => (h2 a b x).trans (h1 a b x)
theorem TF.put {G g : Mem} {j : Nat} {v : Int} (h : TF G g) (hj : 16 ≤ j ∧ j ≤ 19) : TF G (ug g 86 j v) := fun a b x => by
  rw [ug_ne (by omega)]
  exact h a b x
theorem TF.sc {G g : Mem} (h : TF G g) : SC G g := fun a b x y => h a b (by omega)
theorem BT.of {T : Nat → Int} {L : Nat} {G g : Mem} (h : BT T L G) (h1 : g 86 15 = G 86 15) (h2 : ∀ j, g 98 j = G 98 j) : BT T L g := ⟨h1.trans h.1, h.2.1, fun j hj => (h2 j).trans (h.2.2 j hj)⟩
theorem BT.tf {T : Nat → Int} {L : Nat} {G g : Mem} (h : BT T L G) (k : TF G g) : BT T L g := h.of (k 86 15 (by omega)) (fun j => k 98 j (by omega))
theorem BT.sc {T : Nat → Int} {L : Nat} {G g : Mem} (h : BT T L G) (k : SC G g) : BT T L g := h.of (k 86 15 (by decide) (by omega)) (fun j => k 98 j (by decide) (by omega))
def tKd (T : Nat → Int) (L s : Nat) : Int := if L ≤ s then 0 else if 97 ≤ T s ∧ T s ≤ 122 then 1 else if 48 ≤ T s ∧ T s ≤ 57 then (if s + 2 < tEn T L 48 57 s then 4 else 2) else if T s = 59 then 3 else 4
def tLn (T : Nat → Int) (L s : Nat) : Nat := if L ≤ s then 0 else if 97 ≤ T s ∧ T s ≤ 122 then tEn T L 97 122 s - s else if 48 ≤ T s ∧ T s ≤ 57 then tEn T L 48 57 s - s else 1
def TKS (T : Nat → Int) (L p : Nat) (g : Mem) : Prop := g 86 16 = (tSk T L p : Int) ∧ g 86 17 = (tLn T L (tSk T L p) : Int) ∧ g 86 18 = tKd T L (tSk T L p) ∧ (tKd T L (tSk T L p) = 2 → g 86 19 = q_num T (tSk T L p) (tEn T L 48 57 (tSk T L p) - tSk T L p))
theorem TKS.of {T : Nat → Int} {L p : Nat} {G g : Mem} (h : TKS T L p G) (k : ∀ j, 16 ≤ j → j ≤ 19 → g 86 j = G 86 j) : TKS T L p g := by
  unfold TKS
  rw [k 16 (by decide) (by decide), k 17 (by decide) (by decide), k 18 (by decide) (by decide), k 19 (by decide) (by decide)]
  exact h
theorem tR_iff {T : Nat → Int} {a b : Int} {j : Nat} : tR T a b j = true ↔ a ≤ T j ∧ T j ≤ b := decide_eq_true_iff
theorem tEn_1 {T : Nat → Int} {L s : Nat} {a b : Int} (hs : s < L) (h : a ≤ T s ∧ T s ≤ b) : tEn T L a b s = q_run (tR T a b) (L - (s + 1)) (s + 1) := by
  unfold tEn
  rw [show L - s = (L - (s + 1)) + 1 by omega]
  show (if tR T a b s = true then _ else _) = _
  rw [if_pos (tR_iff.mpr h)]
theorem tEn_0 {T : Nat → Int} {L s : Nat} {a b : Int} (h : ¬ (a ≤ T s ∧ T s ≤ b)) : tEn T L a b s = s := by
  unfold tEn
  cases L - s with
  | zero => rfl
  | succ d => exact if_neg (fun q => h (tR_iff.mp q))
theorem tEn_p {T : Nat → Int} {L s : Nat} {a b : Int} (hs : s < L) (h : a ≤ T s ∧ T s ≤ b) : s + 1 ≤ tEn T L a b s ∧ tEn T L a b s ≤ L := by
  rw [tEn_1 hs h]
  have := q_run_b (f := tR T a b) (L - (s + 1)) (s + 1)
  omega
theorem tSk_i {T : Nat → Int} {L p : Nat} (hp : p ≤ L) : tSk T L (tSk T L p) = tSk T L p := by
  have hb := tSk_b (T := T) hp
  by_cases h : L ≤ tSk T L p
  · exact tSk_end h
  · have k : tB T (tSk T L p) = false := q_run_at (L - p) p (by show tSk T L p < _; omega)
    show q_run (tB T) (L - tSk T L p) (tSk T L p) = tSk T L p
    rw [show L - tSk T L p = (L - tSk T L p - 1) + 1 by omega]
    show (if tB T (tSk T L p) = true then _ else _) = _
    rw [k]
    rfl
theorem m_xisSmall {G : Mem} {n : Int} (hn : 0 ≤ n ∧ n ≤ 255) : MP M_X12_isSmall [.int (iI n)] G (vx (bI (97 ≤ n ∧ n ≤ 122)) G) := by
  refine MP.of [some (.int (iI n))] (plainFor_of_name pn_X12) (Nat.le_of_ble_eq_true rfl) rfl ?_
  refine k_iload_n dX12_isSmall_0 rfl ?_
  refine k_i2l dX12_isSmall_1 ⟨by omega, by omega⟩ ?_
  refine k_ldc2 97 dX12_isSmall_2 w_1170 ?_
  refine k_ldc2 122 dX12_isSmall_5 w_1171 ?_
  refine k_callSi [.long (lI _), .long (lI _), .long (lI _)] dX12_isSmall_8 s_X12_isSmall_65 rfl (m_xIn (by first | assumption | exact ⟨by omega, by omega⟩) (by first | assumption | exact ⟨by omega, by omega⟩) (by first | assumption | exact ⟨by omega, by omega⟩)) rfl (Nat.le_of_ble_eq_true rfl) ?_
  rintro _ _ ⟨rfl, rfl⟩
  exact k_zret dX12_isSmall_11 rfl (by unfold bI; split <;> omega) ⟨_, rfl, rfl, rfl⟩
theorem m_xisFigure {G : Mem} {n : Int} (hn : 0 ≤ n ∧ n ≤ 255) : MP M_X12_isFigure [.int (iI n)] G (vx (bI (48 ≤ n ∧ n ≤ 57)) G) := by
  refine MP.of [some (.int (iI n))] (plainFor_of_name pn_X12) (Nat.le_of_ble_eq_true rfl) rfl ?_
  refine k_iload_n dX12_isFigure_0 rfl ?_
  refine k_i2l dX12_isFigure_1 ⟨by omega, by omega⟩ ?_
  refine k_ldc2 48 dX12_isFigure_2 w_1175 ?_
  refine k_ldc2 57 dX12_isFigure_5 w_1176 ?_
  refine k_callSi [.long (lI _), .long (lI _), .long (lI _)] dX12_isFigure_8 s_X12_isFigure_65 rfl (m_xIn (by first | assumption | exact ⟨by omega, by omega⟩) (by first | assumption | exact ⟨by omega, by omega⟩) (by first | assumption | exact ⟨by omega, by omega⟩)) rfl (Nat.le_of_ble_eq_true rfl) ?_
  rintro _ _ ⟨rfl, rfl⟩
  exact k_zret dX12_isFigure_11 rfl (by unfold bI; split <;> omega) ⟨_, rfl, rfl, rfl⟩
theorem lp_lk1 {T : Nat → Int} {L : Nat} {G : Mem} (hT : TB T) (hB : BT T L G) {p : Nat} (hp : p ≤ L) {j2 j3 j4 : Option Value} {Post : Option Value → Mem → Prop} (hk : ∀ g : Mem, TF G g → g 86 16 = (tSk T L p : Int) → RP M_X12_lookAt 43 [some (.ref 86), some (.int (iI (p : Int))), j2, j3, j4] [] g Post) : ∀ (d i : Nat) (g : Mem), i + d = L → TF G g → g 86 16 = (i : Int) → q_run (tB T) d i = tSk T L p → RP M_X12_lookAt 5 [some (.ref 86), some (.int (iI (p : Int))), j2, j3, j4] [] g Post := by
  intro d
  induction d with
  | zero =>
    intro i g hd hg h16 hq
    have hl := (hB.tf hg).1
    have hl2 := hB.2.1
    change i = tSk T L p at hq
    refine k_aload_n dX12_lookAt_5 rfl ?_
    refine k_getI dX12_lookAt_6 f_X12_236 (Nat.le_of_ble_eq_true rfl) sh_o86 (fun _ => rfl) ?_
    refine k_aload_n dX12_lookAt_9 rfl ?_
    refine k_getI dX12_lookAt_10 f_X12_225 (Nat.le_of_ble_eq_true rfl) sh_o86 (fun _ => rfl) ?_
    refine k_icmp_ge 43 dX12_lookAt_13 (by decide) ⟨by omega, by omega⟩ ⟨by omega, by omega⟩ (fun h13 => ?_) (fun h13 => absurd h13 (by omega))
    exact hk g hg (by rw [h16, hq])
  | succ d ih =>
    intro i g hd hg h16 hq
    have hl := (hB.tf hg).1
    have hl2 := hB.2.1
    have hb := (hB.tf hg).2.2 i (by omega)
    have ht := hT i
    have e := q_run.eq_2 (tB T) i d
    have eb : tB T i = true ↔ T i = 32 := decide_eq_true_iff
    refine k_aload_n dX12_lookAt_5 rfl ?_
    refine k_getI dX12_lookAt_6 f_X12_236 (Nat.le_of_ble_eq_true rfl) sh_o86 (fun _ => rfl) ?_
    refine k_aload_n dX12_lookAt_9 rfl ?_
    refine k_getI dX12_lookAt_10 f_X12_225 (Nat.le_of_ble_eq_true rfl) sh_o86 (fun _ => rfl) ?_
    refine k_icmp_ge 43 dX12_lookAt_13 (by decide) ⟨by omega, by omega⟩ ⟨by omega, by omega⟩ (fun h13 => absurd h13 (by omega)) (fun h13 => ?_)
    refine k_aload_n dX12_lookAt_16 rfl ?_
    refine k_getR dX12_lookAt_17 f_X12_48 (Nat.le_of_ble_eq_true rfl) sh_o86 (fun _ => rfl) ?_
    refine k_aload_n dX12_lookAt_20 rfl ?_
    refine k_getI dX12_lookAt_21 f_X12_236 (Nat.le_of_ble_eq_true rfl) sh_o86 (fun _ => rfl) ?_
    refine k_iald i dX12_lookAt_24 (Nat.le_of_ble_eq_true rfl) sh_a98 (by decide) (by omega) (by omega) ?_
    rw [hb]
    refine k_bipush dX12_lookAt_25 (by decide) ?_
    refine k_icmp_ne 43 dX12_lookAt_27 (by decide) ⟨by omega, by omega⟩ ⟨by decide, by decide⟩ (fun h27 => ?_) (fun h27 => ?_)
    · skip
      exact hk g hg (by rw [h16, ← hq, e, if_neg (fun q => h27 (eb.mp q))])
    · skip
      refine k_aload_n dX12_lookAt_30 rfl ?_
      refine k_dup dX12_lookAt_31 rfl ?_
      refine k_getI dX12_lookAt_32 f_X12_236 (Nat.le_of_ble_eq_true rfl) sh_o86 (fun _ => rfl) ?_
      refine k_iconst dX12_lookAt_35 ?_
      refine k_iadd dX12_lookAt_36 ?_
      refine k_putI dX12_lookAt_37 f_X12_236 (Nat.le_of_ble_eq_true rfl) sh_o86 (fun _ => (Nat.le_of_ble_eq_true rfl)) rfl (fun _ => rfl) ?_
      refine k_goto 5 dX12_lookAt_40 (by decide) ?_
      exact ih (i + 1) _ (by omega) (hg.put ⟨by decide, by decide⟩) (by rw [ug_at]; omega) (by rw [← hq, e, if_pos (eb.mpr h27)])
theorem lp_lk21 {T : Nat → Int} {L : Nat} {G : Mem} (hT : TB T) (hB : BT T L G) {s E : Nat} {fr c : Int} {Post : Option Value → Mem → Prop} (hk : ∀ (g : Mem) (m : Int) (j4 : Option Value), TF G g → g 86 16 = (s : Int) → g 86 17 = ((E - s : Nat) : Int) → g 86 18 = 1 → g 86 19 = 0 → RP M_X12_lookAt 215 [some (.ref 86), some (.int (iI fr)), some (.int (iI c)), some (.int (iI m)), j4] [] g Post) : ∀ (d n : Nat) (g : Mem) (j4 : Option Value), s + n + d = L → 1 ≤ n → TF G g → g 86 16 = (s : Int) → g 86 17 = (n : Int) → g 86 18 = 1 → g 86 19 = 0 → q_run (tR T 97 122) d (s + n) = E → RP M_X12_lookAt 136 [some (.ref 86), some (.int (iI fr)), some (.int (iI c)), some (.int (iI 1)), j4] [] g Post := by
  intro d
  induction d with
  | zero =>
    intro n g j4 hd hn hg h16 h17 h18 h19 hq
    have hl := (hB.tf hg).1
    have hl2 := hB.2.1
    change s + n = E at hq
    refine k_iload_n dX12_lookAt_136 rfl ?_
    refine k_if_eq 215 dX12_lookAt_137 (by decide) ⟨by decide, by decide⟩ (fun h => False.elim (by revert h; decide)) (fun _ => ?_)
    refine k_aload_n dX12_lookAt_140 rfl ?_
    refine k_getI dX12_lookAt_141 f_X12_236 (Nat.le_of_ble_eq_true rfl) sh_o86 (fun _ => rfl) ?_
    refine k_aload_n dX12_lookAt_144 rfl ?_
    refine k_getI dX12_lookAt_145 f_X12_239 (Nat.le_of_ble_eq_true rfl) sh_o86 (fun _ => rfl) ?_
    refine k_iadd dX12_lookAt_148 ?_
    refine k_aload_n dX12_lookAt_149 rfl ?_
    refine k_getI dX12_lookAt_150 f_X12_225 (Nat.le_of_ble_eq_true rfl) sh_o86 (fun _ => rfl) ?_
    refine k_icmp_ge 215 dX12_lookAt_153 (by decide) ⟨by omega, by omega⟩ ⟨by omega, by omega⟩ (fun h153 => ?_) (fun h153 => absurd h153 (by omega))
    exact hk g 1 j4 hg h16 (by rw [h17]; omega) h18 h19
  | succ d ih =>
    intro n g j4 hd hn hg h16 h17 h18 h19 hq
    have hl := (hB.tf hg).1
    have hl2 := hB.2.1
    have hb := (hB.tf hg).2.2 (s + n) (by omega)
    have ht := hT (s + n)
    have e := q_run.eq_2 (tR T 97 122) (s + n) d
    have eb := tR_iff (T := T) (a := 97) (b := 122) (j := s + n)
    refine k_iload_n dX12_lookAt_136 rfl ?_
    refine k_if_eq 215 dX12_lookAt_137 (by decide) ⟨by decide, by decide⟩ (fun h => False.elim (by revert h; decide)) (fun _ => ?_)
    refine k_aload_n dX12_lookAt_140 rfl ?_
    refine k_getI dX12_lookAt_141 f_X12_236 (Nat.le_of_ble_eq_true rfl) sh_o86 (fun _ => rfl) ?_
    refine k_aload_n dX12_lookAt_144 rfl ?_
    refine k_getI dX12_lookAt_145 f_X12_239 (Nat.le_of_ble_eq_true rfl) sh_o86 (fun _ => rfl) ?_
    refine k_iadd dX12_lookAt_148 ?_
    refine k_aload_n dX12_lookAt_149 rfl ?_
    refine k_getI dX12_lookAt_150 f_X12_225 (Nat.le_of_ble_eq_true rfl) sh_o86 (fun _ => rfl) ?_
    refine k_icmp_ge 215 dX12_lookAt_153 (by decide) ⟨by omega, by omega⟩ ⟨by omega, by omega⟩ (fun h153 => absurd h153 (by omega)) (fun h153 => ?_)
    refine k_aload_n dX12_lookAt_156 rfl ?_
    refine k_getR dX12_lookAt_157 f_X12_48 (Nat.le_of_ble_eq_true rfl) sh_o86 (fun _ => rfl) ?_
    refine k_aload_n dX12_lookAt_160 rfl ?_
    refine k_getI dX12_lookAt_161 f_X12_236 (Nat.le_of_ble_eq_true rfl) sh_o86 (fun _ => rfl) ?_
    refine k_aload_n dX12_lookAt_164 rfl ?_
    refine k_getI dX12_lookAt_165 f_X12_239 (Nat.le_of_ble_eq_true rfl) sh_o86 (fun _ => rfl) ?_
    refine k_iadd dX12_lookAt_168 ?_
    refine k_iald (s + n) dX12_lookAt_169 (Nat.le_of_ble_eq_true rfl) sh_a98 (by decide) (by omega) (by omega) ?_
    rw [hb]
    refine k_istore (L' := [_, _, _, _, _]) dX12_lookAt_170 (Nat.le_of_ble_eq_true rfl) rfl ?_
    refine k_aload_n dX12_lookAt_172 rfl ?_
    refine k_getI dX12_lookAt_173 f_X12_242 (Nat.le_of_ble_eq_true rfl) sh_o86 (fun _ => rfl) ?_
    refine k_iconst dX12_lookAt_176 ?_
    refine k_icmp_ne 188 dX12_lookAt_177 (by decide) ⟨by omega, by omega⟩ ⟨by decide, by decide⟩ (fun h177 => absurd h177 (by omega)) (fun h177 => ?_)
    refine k_iload dX12_lookAt_180 rfl ?_
    refine k_callSi [.int (iI _)] dX12_lookAt_182 s_X12_lookAt_248 rfl (m_xisSmall (by omega)) rfl (Nat.le_of_ble_eq_true rfl) ?_
    rintro _ _ ⟨rfl, rfl⟩
    refine k_goto 193 dX12_lookAt_185 (by decide) ?_
    refine k_istore_n (L' := [_, _, _, _, _]) dX12_lookAt_193 (Nat.le_of_ble_eq_true rfl) rfl ?_
    refine k_aload_n dX12_lookAt_194 rfl ?_
    refine k_dup dX12_lookAt_195 rfl ?_
    refine k_getI dX12_lookAt_196 f_X12_239 (Nat.le_of_ble_eq_true rfl) sh_o86 (fun _ => rfl) ?_
    refine k_iload_n dX12_lookAt_199 rfl ?_
    refine k_ifb_eq 207 dX12_lookAt_200 (by decide) (fun h200 => ?_) (fun h200 => ?_)
    · skip
      refine k_iconst dX12_lookAt_207 ?_
      refine k_iadd dX12_lookAt_208 ?_
      refine k_putI dX12_lookAt_209 f_X12_239 (Nat.le_of_ble_eq_true rfl) sh_o86 (fun _ => (Nat.le_of_ble_eq_true rfl)) rfl (fun _ => rfl) ?_
      refine k_goto 136 dX12_lookAt_212 (by decide) ?_
      first
      | (rw [bI_t h200]; exact ih (n + 1) _ _ (by omega) (by omega) (hg.put ⟨by decide, by decide⟩) (by rw [ug_np (by decide)]; exact h16) (by rw [ug_at]; omega) (by rw [ug_np (by decide)]; exact h18) (by rw [ug_np (by decide)]; exact h19) (by rw [← hq, e, if_pos (eb.mpr h200)]; rfl))
      | (rw [bI_f h200]
         refine k_iload_n dX12_lookAt_136 rfl ?_
         refine k_if_eq 215 dX12_lookAt_137 (by decide) ⟨by decide, by decide⟩ (fun _ => ?_) (fun h => absurd rfl h)
         rw [e, if_neg (fun q => h200 (eb.mp q))] at hq
         exact hk _ 0 _ (hg.put ⟨by decide, by decide⟩) (by rw [ug_np (by decide)]; exact h16) (by rw [ug_at]; omega) (by rw [ug_np (by decide)]; exact h18) (by rw [ug_np (by decide)]; exact h19))
    · skip
      refine k_iconst dX12_lookAt_203 ?_
      refine k_goto 208 dX12_lookAt_204 (by decide) ?_
      refine k_iadd dX12_lookAt_208 ?_
      refine k_putI dX12_lookAt_209 f_X12_239 (Nat.le_of_ble_eq_true rfl) sh_o86 (fun _ => (Nat.le_of_ble_eq_true rfl)) rfl (fun _ => rfl) ?_
      refine k_goto 136 dX12_lookAt_212 (by decide) ?_
      first
      | (rw [bI_t h200]; exact ih (n + 1) _ _ (by omega) (by omega) (hg.put ⟨by decide, by decide⟩) (by rw [ug_np (by decide)]; exact h16) (by rw [ug_at]; omega) (by rw [ug_np (by decide)]; exact h18) (by rw [ug_np (by decide)]; exact h19) (by rw [← hq, e, if_pos (eb.mpr h200)]; rfl))
      | (rw [bI_f h200]
         refine k_iload_n dX12_lookAt_136 rfl ?_
         refine k_if_eq 215 dX12_lookAt_137 (by decide) ⟨by decide, by decide⟩ (fun _ => ?_) (fun h => absurd rfl h)
         rw [e, if_neg (fun q => h200 (eb.mp q))] at hq
         exact hk _ 0 _ (hg.put ⟨by decide, by decide⟩) (by rw [ug_np (by decide)]; exact h16) (by rw [ug_at]; omega) (by rw [ug_np (by decide)]; exact h18) (by rw [ug_np (by decide)]; exact h19))
theorem lp_lk22 {T : Nat → Int} {L : Nat} {G : Mem} (hT : TB T) (hB : BT T L G) {s E : Nat} {fr c : Int} {Post : Option Value → Mem → Prop} (hk : ∀ (g : Mem) (m : Int) (j4 : Option Value), TF G g → g 86 16 = (s : Int) → g 86 17 = ((E - s : Nat) : Int) → g 86 18 = 2 → g 86 19 = 0 → RP M_X12_lookAt 215 [some (.ref 86), some (.int (iI fr)), some (.int (iI c)), some (.int (iI m)), j4] [] g Post) : ∀ (d n : Nat) (g : Mem) (j4 : Option Value), s + n + d = L → 1 ≤ n → TF G g → g 86 16 = (s : Int) → g 86 17 = (n : Int) → g 86 18 = 2 → g 86 19 = 0 → q_run (tR T 48 57) d (s + n) = E → RP M_X12_lookAt 136 [some (.ref 86), some (.int (iI fr)), some (.int (iI c)), some (.int (iI 1)), j4] [] g Post := by
  intro d
  induction d with
  | zero =>
    intro n g j4 hd hn hg h16 h17 h18 h19 hq
    have hl := (hB.tf hg).1
    have hl2 := hB.2.1
    change s + n = E at hq
    refine k_iload_n dX12_lookAt_136 rfl ?_
    refine k_if_eq 215 dX12_lookAt_137 (by decide) ⟨by decide, by decide⟩ (fun h => False.elim (by revert h; decide)) (fun _ => ?_)
    refine k_aload_n dX12_lookAt_140 rfl ?_
    refine k_getI dX12_lookAt_141 f_X12_236 (Nat.le_of_ble_eq_true rfl) sh_o86 (fun _ => rfl) ?_
    refine k_aload_n dX12_lookAt_144 rfl ?_
    refine k_getI dX12_lookAt_145 f_X12_239 (Nat.le_of_ble_eq_true rfl) sh_o86 (fun _ => rfl) ?_
    refine k_iadd dX12_lookAt_148 ?_
    refine k_aload_n dX12_lookAt_149 rfl ?_
    refine k_getI dX12_lookAt_150 f_X12_225 (Nat.le_of_ble_eq_true rfl) sh_o86 (fun _ => rfl) ?_
    refine k_icmp_ge 215 dX12_lookAt_153 (by decide) ⟨by omega, by omega⟩ ⟨by omega, by omega⟩ (fun h153 => ?_) (fun h153 => absurd h153 (by omega))
    exact hk g 1 j4 hg h16 (by rw [h17]; omega) h18 h19
  | succ d ih =>
    intro n g j4 hd hn hg h16 h17 h18 h19 hq
    have hl := (hB.tf hg).1
    have hl2 := hB.2.1
    have hb := (hB.tf hg).2.2 (s + n) (by omega)
    have ht := hT (s + n)
    have e := q_run.eq_2 (tR T 48 57) (s + n) d
    have eb := tR_iff (T := T) (a := 48) (b := 57) (j := s + n)
    refine k_iload_n dX12_lookAt_136 rfl ?_
    refine k_if_eq 215 dX12_lookAt_137 (by decide) ⟨by decide, by decide⟩ (fun h => False.elim (by revert h; decide)) (fun _ => ?_)
    refine k_aload_n dX12_lookAt_140 rfl ?_
    refine k_getI dX12_lookAt_141 f_X12_236 (Nat.le_of_ble_eq_true rfl) sh_o86 (fun _ => rfl) ?_
    refine k_aload_n dX12_lookAt_144 rfl ?_
    refine k_getI dX12_lookAt_145 f_X12_239 (Nat.le_of_ble_eq_true rfl) sh_o86 (fun _ => rfl) ?_
    refine k_iadd dX12_lookAt_148 ?_
    refine k_aload_n dX12_lookAt_149 rfl ?_
    refine k_getI dX12_lookAt_150 f_X12_225 (Nat.le_of_ble_eq_true rfl) sh_o86 (fun _ => rfl) ?_
    refine k_icmp_ge 215 dX12_lookAt_153 (by decide) ⟨by omega, by omega⟩ ⟨by omega, by omega⟩ (fun h153 => absurd h153 (by omega)) (fun h153 => ?_)
    refine k_aload_n dX12_lookAt_156 rfl ?_
    refine k_getR dX12_lookAt_157 f_X12_48 (Nat.le_of_ble_eq_true rfl) sh_o86 (fun _ => rfl) ?_
    refine k_aload_n dX12_lookAt_160 rfl ?_
    refine k_getI dX12_lookAt_161 f_X12_236 (Nat.le_of_ble_eq_true rfl) sh_o86 (fun _ => rfl) ?_
    refine k_aload_n dX12_lookAt_164 rfl ?_
    refine k_getI dX12_lookAt_165 f_X12_239 (Nat.le_of_ble_eq_true rfl) sh_o86 (fun _ => rfl) ?_
    refine k_iadd dX12_lookAt_168 ?_
    refine k_iald (s + n) dX12_lookAt_169 (Nat.le_of_ble_eq_true rfl) sh_a98 (by decide) (by omega) (by omega) ?_
    rw [hb]
    refine k_istore (L' := [_, _, _, _, _]) dX12_lookAt_170 (Nat.le_of_ble_eq_true rfl) rfl ?_
    refine k_aload_n dX12_lookAt_172 rfl ?_
    refine k_getI dX12_lookAt_173 f_X12_242 (Nat.le_of_ble_eq_true rfl) sh_o86 (fun _ => rfl) ?_
    refine k_iconst dX12_lookAt_176 ?_
    refine k_icmp_ne 188 dX12_lookAt_177 (by decide) ⟨by omega, by omega⟩ ⟨by decide, by decide⟩ (fun h177 => ?_) (fun h177 => absurd h177 (by omega))
    refine k_iload dX12_lookAt_188 rfl ?_
    refine k_callSi [.int (iI _)] dX12_lookAt_190 s_X12_lookAt_251 rfl (m_xisFigure (by omega)) rfl (Nat.le_of_ble_eq_true rfl) ?_
    rintro _ _ ⟨rfl, rfl⟩
    refine k_istore_n (L' := [_, _, _, _, _]) dX12_lookAt_193 (Nat.le_of_ble_eq_true rfl) rfl ?_
    refine k_aload_n dX12_lookAt_194 rfl ?_
    refine k_dup dX12_lookAt_195 rfl ?_
    refine k_getI dX12_lookAt_196 f_X12_239 (Nat.le_of_ble_eq_true rfl) sh_o86 (fun _ => rfl) ?_
    refine k_iload_n dX12_lookAt_199 rfl ?_
    refine k_ifb_eq 207 dX12_lookAt_200 (by decide) (fun h200 => ?_) (fun h200 => ?_)
    · skip
      refine k_iconst dX12_lookAt_207 ?_
      refine k_iadd dX12_lookAt_208 ?_
      refine k_putI dX12_lookAt_209 f_X12_239 (Nat.le_of_ble_eq_true rfl) sh_o86 (fun _ => (Nat.le_of_ble_eq_true rfl)) rfl (fun _ => rfl) ?_
      refine k_goto 136 dX12_lookAt_212 (by decide) ?_
      first
      | (rw [bI_t h200]; exact ih (n + 1) _ _ (by omega) (by omega) (hg.put ⟨by decide, by decide⟩) (by rw [ug_np (by decide)]; exact h16) (by rw [ug_at]; omega) (by rw [ug_np (by decide)]; exact h18) (by rw [ug_np (by decide)]; exact h19) (by rw [← hq, e, if_pos (eb.mpr h200)]; rfl))
      | (rw [bI_f h200]
         refine k_iload_n dX12_lookAt_136 rfl ?_
         refine k_if_eq 215 dX12_lookAt_137 (by decide) ⟨by decide, by decide⟩ (fun _ => ?_) (fun h => absurd rfl h)
         rw [e, if_neg (fun q => h200 (eb.mp q))] at hq
         exact hk _ 0 _ (hg.put ⟨by decide, by decide⟩) (by rw [ug_np (by decide)]; exact h16) (by rw [ug_at]; omega) (by rw [ug_np (by decide)]; exact h18) (by rw [ug_np (by decide)]; exact h19))
    · skip
      refine k_iconst dX12_lookAt_203 ?_
      refine k_goto 208 dX12_lookAt_204 (by decide) ?_
      refine k_iadd dX12_lookAt_208 ?_
      refine k_putI dX12_lookAt_209 f_X12_239 (Nat.le_of_ble_eq_true rfl) sh_o86 (fun _ => (Nat.le_of_ble_eq_true rfl)) rfl (fun _ => rfl) ?_
      refine k_goto 136 dX12_lookAt_212 (by decide) ?_
      first
      | (rw [bI_t h200]; exact ih (n + 1) _ _ (by omega) (by omega) (hg.put ⟨by decide, by decide⟩) (by rw [ug_np (by decide)]; exact h16) (by rw [ug_at]; omega) (by rw [ug_np (by decide)]; exact h18) (by rw [ug_np (by decide)]; exact h19) (by rw [← hq, e, if_pos (eb.mpr h200)]; rfl))
      | (rw [bI_f h200]
         refine k_iload_n dX12_lookAt_136 rfl ?_
         refine k_if_eq 215 dX12_lookAt_137 (by decide) ⟨by decide, by decide⟩ (fun _ => ?_) (fun h => absurd rfl h)
         rw [e, if_neg (fun q => h200 (eb.mp q))] at hq
         exact hk _ 0 _ (hg.put ⟨by decide, by decide⟩) (by rw [ug_np (by decide)]; exact h16) (by rw [ug_at]; omega) (by rw [ug_np (by decide)]; exact h18) (by rw [ug_np (by decide)]; exact h19))
theorem lp_lk31 {T : Nat → Int} {L : Nat} {G : Mem} (hT : TB T) (hB : BT T L G) {p : Nat} (hp : p ≤ L) (hs : tSk T L p < L) {fr c m : Int} {j4 : Option Value} {g : Mem} (hg : TF G g) (h16 : g 86 16 = (tSk T L p : Int)) (h17 : g 86 17 = ((tEn T L 97 122 (tSk T L p) - (tSk T L p) : Nat) : Int)) (h18 : g 86 18 = 1) (hc : 97 ≤ T (tSk T L p) ∧ T (tSk T L p) ≤ 122) : RP M_X12_lookAt 215 [some (.ref 86), some (.int (iI fr)), some (.int (iI c)), some (.int (iI m)), j4] [] g (vv fun k => TF G k ∧ TKS T L p k) := by
  have hb := tEn_p hs hc
  have hl2 := hB.2.1
  have ek : tKd T L (tSk T L p) = 1 := by unfold tKd; rw [if_neg (by omega), if_pos hc]
  have el : tLn T L (tSk T L p) = tEn T L 97 122 (tSk T L p) - (tSk T L p) := by unfold tLn; rw [if_neg (by omega), if_pos hc]
  refine k_iconst dX12_lookAt_215 ?_
  refine k_istore (L' := [_, _, _, _, _]) dX12_lookAt_216 (Nat.le_of_ble_eq_true rfl) rfl ?_
  refine k_iload dX12_lookAt_218 rfl ?_
  refine k_aload_n dX12_lookAt_220 rfl ?_
  refine k_getI dX12_lookAt_221 f_X12_239 (Nat.le_of_ble_eq_true rfl) sh_o86 (fun _ => rfl) ?_
  refine k_icmp_ge 274 dX12_lookAt_224 (by decide) ⟨by decide, by decide⟩ ⟨by omega, by omega⟩ (fun h224 => absurd h224 (by omega)) (fun h224 => ?_)
  refine k_iload dX12_lookAt_227 rfl ?_
  refine k_iconst dX12_lookAt_229 ?_
  refine k_icmp_ge 274 dX12_lookAt_230 (by decide) ⟨by decide, by decide⟩ ⟨by decide, by decide⟩ (fun h230 => absurd h230 (by omega)) (fun h230 => ?_)
  refine k_aload_n dX12_lookAt_233 rfl ?_
  refine k_getI dX12_lookAt_234 f_X12_242 (Nat.le_of_ble_eq_true rfl) sh_o86 (fun _ => rfl) ?_
  refine k_iconst dX12_lookAt_237 ?_
  refine k_icmp_ne 274 dX12_lookAt_238 (by decide) ⟨by omega, by omega⟩ ⟨by decide, by decide⟩ (fun h238 => ?_) (fun h238 => absurd h238 (by omega))
  refine k_aload_n dX12_lookAt_274 rfl ?_
  refine k_aload_n dX12_lookAt_275 rfl ?_
  refine k_getI dX12_lookAt_276 f_X12_242 (Nat.le_of_ble_eq_true rfl) sh_o86 (fun _ => rfl) ?_
  refine k_iconst dX12_lookAt_279 ?_
  refine k_icmp_ne 295 dX12_lookAt_280 (by decide) ⟨by omega, by omega⟩ ⟨by decide, by decide⟩ (fun h280 => ?_) (fun h280 => absurd h280 (by omega))
  refine k_aload_n dX12_lookAt_295 rfl ?_
  refine k_getI dX12_lookAt_296 f_X12_242 (Nat.le_of_ble_eq_true rfl) sh_o86 (fun _ => rfl) ?_
  refine k_putI dX12_lookAt_299 f_X12_242 (Nat.le_of_ble_eq_true rfl) sh_o86 (fun _ => (Nat.le_of_ble_eq_true rfl)) rfl (fun _ => rfl) ?_
  exact k_ret dX12_lookAt_302 rfl ⟨rfl, hg.put ⟨by decide, by decide⟩, by rw [ug_np (by decide)]; exact h16, by rw [ug_np (by decide), h17, el], by rw [ug_at, h18, ek], fun q => by rw [ek] at q; exact absurd q (by decide)⟩
theorem lp_lk321 {T : Nat → Int} {L : Nat} {G : Mem} (hT : TB T) (hB : BT T L G) {p : Nat} (hp : p ≤ L) (hs : tSk T L p < L) {fr c m : Int} {j4 : Option Value} {g : Mem} (hg : TF G g) (h16 : g 86 16 = (tSk T L p : Int)) (h17 : g 86 17 = ((tEn T L 48 57 (tSk T L p) - (tSk T L p) : Nat) : Int)) (h18 : g 86 18 = 2) (h19 : g 86 19 = 0) (hc : 48 ≤ T (tSk T L p) ∧ T (tSk T L p) ≤ 57) (he : tEn T L 48 57 (tSk T L p) = (tSk T L p) + 1) : RP M_X12_lookAt 215 [some (.ref 86), some (.int (iI fr)), some (.int (iI c)), some (.int (iI m)), j4] [] g (vv fun k => TF G k ∧ TKS T L p k) := by
  have hb := tEn_p hs hc
  have hl2 := hB.2.1
  have v1 : q_num T (tSk T L p) 1 = 10 * 0 + T (tSk T L p) - 48 := rfl
  have v2 : q_num T (tSk T L p) 2 = 10 * (10 * 0 + T (tSk T L p) - 48) + T ((tSk T L p) + 1) - 48 := rfl
  have c0 := (hB.tf hg).2.2 (tSk T L p) hs
  have t0 := hT (tSk T L p)
  have ek : tKd T L (tSk T L p) = 2 := by unfold tKd; rw [if_neg (by omega), if_neg (by omega), if_pos hc]; first | exact if_pos he | exact if_neg (by omega)
  have el : tLn T L (tSk T L p) = tEn T L 48 57 (tSk T L p) - (tSk T L p) := by unfold tLn; rw [if_neg (by omega), if_neg (by omega), if_pos hc]
  refine k_iconst dX12_lookAt_215 ?_
  refine k_istore (L' := [_, _, _, _, _]) dX12_lookAt_216 (Nat.le_of_ble_eq_true rfl) rfl ?_
  skip
  refine k_iload dX12_lookAt_218 rfl ?_
  refine k_aload_n dX12_lookAt_220 rfl ?_
  refine k_getI dX12_lookAt_221 f_X12_239 (Nat.le_of_ble_eq_true rfl) sh_o86 (fun _ => rfl) ?_
  refine k_icmp_ge 274 dX12_lookAt_224 (by decide) ⟨by decide, by decide⟩ ⟨by omega, by omega⟩ (fun h224 => absurd h224 (by omega)) (fun h224 => ?_)
  refine k_iload dX12_lookAt_227 rfl ?_
  refine k_iconst dX12_lookAt_229 ?_
  refine k_icmp_ge 274 dX12_lookAt_230 (by decide) ⟨by decide, by decide⟩ ⟨by decide, by decide⟩ (fun h230 => absurd h230 (by omega)) (fun h230 => ?_)
  refine k_aload_n dX12_lookAt_233 rfl ?_
  refine k_getI dX12_lookAt_234 f_X12_242 (Nat.le_of_ble_eq_true rfl) sh_o86 (fun _ => rfl) ?_
  refine k_iconst dX12_lookAt_237 ?_
  refine k_icmp_ne 274 dX12_lookAt_238 (by decide) ⟨by omega, by omega⟩ ⟨by decide, by decide⟩ (fun h238 => absurd h238 (by omega)) (fun h238 => ?_)
  refine k_aload_n dX12_lookAt_241 rfl ?_
  refine k_bipush dX12_lookAt_242 (by decide) ?_
  refine k_aload_n dX12_lookAt_244 rfl ?_
  refine k_getI dX12_lookAt_245 f_X12_245 (Nat.le_of_ble_eq_true rfl) sh_o86 (fun _ => rfl) ?_
  refine k_imul dX12_lookAt_248 ?_
  refine k_aload_n dX12_lookAt_249 rfl ?_
  refine k_getR dX12_lookAt_250 f_X12_48 (Nat.le_of_ble_eq_true rfl) sh_o86 (fun _ => rfl) ?_
  refine k_aload_n dX12_lookAt_253 rfl ?_
  refine k_getI dX12_lookAt_254 f_X12_236 (Nat.le_of_ble_eq_true rfl) sh_o86 (fun _ => rfl) ?_
  refine k_iload dX12_lookAt_257 rfl ?_
  refine k_iadd dX12_lookAt_259 ?_
  refine k_iald (tSk T L p) dX12_lookAt_260 (Nat.le_of_ble_eq_true rfl) sh_a98 (by decide) (by omega) (by omega) ?_
  rw [c0]
  refine k_iadd dX12_lookAt_261 ?_
  refine k_bipush dX12_lookAt_262 (by decide) ?_
  refine k_isub dX12_lookAt_264 ?_
  refine k_putI dX12_lookAt_265 f_X12_245 (Nat.le_of_ble_eq_true rfl) sh_o86 (fun _ => (Nat.le_of_ble_eq_true rfl)) rfl (fun _ => rfl) ?_
  refine k_iinc (L' := [_, _, _, _, _]) dX12_lookAt_268 rfl (Nat.le_of_ble_eq_true rfl) rfl ?_
  refine k_goto 218 dX12_lookAt_271 (by decide) ?_
  skip
  refine k_iload dX12_lookAt_218 rfl ?_
  refine k_aload_n dX12_lookAt_220 rfl ?_
  refine k_getI dX12_lookAt_221 f_X12_239 (Nat.le_of_ble_eq_true rfl) sh_o86 (fun _ => rfl) ?_
  try simp (disch := omega) only [ug_at, ug_nc, ug_np]
  refine k_icmp_ge 274 dX12_lookAt_224 (by decide) ⟨by decide, by decide⟩ ⟨by omega, by omega⟩ (fun h224 => ?_) (fun h224 => absurd h224 (by omega))
  refine k_aload_n dX12_lookAt_274 rfl ?_
  refine k_aload_n dX12_lookAt_275 rfl ?_
  refine k_getI dX12_lookAt_276 f_X12_242 (Nat.le_of_ble_eq_true rfl) sh_o86 (fun _ => rfl) ?_
  refine k_iconst dX12_lookAt_279 ?_
  try simp (disch := omega) only [ug_at, ug_nc, ug_np]
  refine k_icmp_ne 295 dX12_lookAt_280 (by decide) ⟨by omega, by omega⟩ ⟨by decide, by decide⟩ (fun h280 => absurd h280 (by omega)) (fun h280 => ?_)
  refine k_aload_n dX12_lookAt_283 rfl ?_
  refine k_getI dX12_lookAt_284 f_X12_239 (Nat.le_of_ble_eq_true rfl) sh_o86 (fun _ => rfl) ?_
  refine k_iconst dX12_lookAt_287 ?_
  try simp (disch := omega) only [ug_at, ug_nc, ug_np]
  refine k_icmp_le 295 dX12_lookAt_288 (by decide) ⟨by omega, by omega⟩ ⟨by decide, by decide⟩ (fun h288 => ?_) (fun h288 => absurd h288 (by omega))
  refine k_aload_n dX12_lookAt_295 rfl ?_
  refine k_getI dX12_lookAt_296 f_X12_242 (Nat.le_of_ble_eq_true rfl) sh_o86 (fun _ => rfl) ?_
  try simp (disch := omega) only [ug_at, ug_nc, ug_np]
  refine k_putI dX12_lookAt_299 f_X12_242 (Nat.le_of_ble_eq_true rfl) sh_o86 (fun _ => (Nat.le_of_ble_eq_true rfl)) rfl (fun _ => rfl) ?_
  exact k_ret dX12_lookAt_302 rfl ⟨rfl, ((hg.put ⟨by decide, by decide⟩).put ⟨by decide, by decide⟩), by simp (disch := omega) only [ug_at, ug_np]; exact h16, by simp (disch := omega) only [ug_at, ug_np]; rw [h17, el], by simp (disch := omega) only [ug_at, ug_np]; rw [ek]; exact h18, fun q => by simp (disch := omega) only [ug_at, ug_np]; rw [show tEn T L 48 57 (tSk T L p) - (tSk T L p) = 1 by omega]; omega⟩
theorem lp_lk322 {T : Nat → Int} {L : Nat} {G : Mem} (hT : TB T) (hB : BT T L G) {p : Nat} (hp : p ≤ L) (hs : tSk T L p < L) {fr c m : Int} {j4 : Option Value} {g : Mem} (hg : TF G g) (h16 : g 86 16 = (tSk T L p : Int)) (h17 : g 86 17 = ((tEn T L 48 57 (tSk T L p) - (tSk T L p) : Nat) : Int)) (h18 : g 86 18 = 2) (h19 : g 86 19 = 0) (hc : 48 ≤ T (tSk T L p) ∧ T (tSk T L p) ≤ 57) (he : tEn T L 48 57 (tSk T L p) = (tSk T L p) + 2) : RP M_X12_lookAt 215 [some (.ref 86), some (.int (iI fr)), some (.int (iI c)), some (.int (iI m)), j4] [] g (vv fun k => TF G k ∧ TKS T L p k) := by
  have hb := tEn_p hs hc
  have hl2 := hB.2.1
  have v1 : q_num T (tSk T L p) 1 = 10 * 0 + T (tSk T L p) - 48 := rfl
  have v2 : q_num T (tSk T L p) 2 = 10 * (10 * 0 + T (tSk T L p) - 48) + T ((tSk T L p) + 1) - 48 := rfl
  have c0 := (hB.tf hg).2.2 (tSk T L p) hs
  have t0 := hT (tSk T L p)
  have c1 := (hB.tf hg).2.2 ((tSk T L p) + 1) (by omega)
  have t1 := hT ((tSk T L p) + 1)
  have ek : tKd T L (tSk T L p) = 2 := by unfold tKd; rw [if_neg (by omega), if_neg (by omega), if_pos hc]; first | exact if_pos he | exact if_neg (by omega)
  have el : tLn T L (tSk T L p) = tEn T L 48 57 (tSk T L p) - (tSk T L p) := by unfold tLn; rw [if_neg (by omega), if_neg (by omega), if_pos hc]
  refine k_iconst dX12_lookAt_215 ?_
  refine k_istore (L' := [_, _, _, _, _]) dX12_lookAt_216 (Nat.le_of_ble_eq_true rfl) rfl ?_
  skip
  refine k_iload dX12_lookAt_218 rfl ?_
  refine k_aload_n dX12_lookAt_220 rfl ?_
  refine k_getI dX12_lookAt_221 f_X12_239 (Nat.le_of_ble_eq_true rfl) sh_o86 (fun _ => rfl) ?_
  refine k_icmp_ge 274 dX12_lookAt_224 (by decide) ⟨by decide, by decide⟩ ⟨by omega, by omega⟩ (fun h224 => absurd h224 (by omega)) (fun h224 => ?_)
  refine k_iload dX12_lookAt_227 rfl ?_
  refine k_iconst dX12_lookAt_229 ?_
  refine k_icmp_ge 274 dX12_lookAt_230 (by decide) ⟨by decide, by decide⟩ ⟨by decide, by decide⟩ (fun h230 => absurd h230 (by omega)) (fun h230 => ?_)
  refine k_aload_n dX12_lookAt_233 rfl ?_
  refine k_getI dX12_lookAt_234 f_X12_242 (Nat.le_of_ble_eq_true rfl) sh_o86 (fun _ => rfl) ?_
  refine k_iconst dX12_lookAt_237 ?_
  refine k_icmp_ne 274 dX12_lookAt_238 (by decide) ⟨by omega, by omega⟩ ⟨by decide, by decide⟩ (fun h238 => absurd h238 (by omega)) (fun h238 => ?_)
  refine k_aload_n dX12_lookAt_241 rfl ?_
  refine k_bipush dX12_lookAt_242 (by decide) ?_
  refine k_aload_n dX12_lookAt_244 rfl ?_
  refine k_getI dX12_lookAt_245 f_X12_245 (Nat.le_of_ble_eq_true rfl) sh_o86 (fun _ => rfl) ?_
  refine k_imul dX12_lookAt_248 ?_
  refine k_aload_n dX12_lookAt_249 rfl ?_
  refine k_getR dX12_lookAt_250 f_X12_48 (Nat.le_of_ble_eq_true rfl) sh_o86 (fun _ => rfl) ?_
  refine k_aload_n dX12_lookAt_253 rfl ?_
  refine k_getI dX12_lookAt_254 f_X12_236 (Nat.le_of_ble_eq_true rfl) sh_o86 (fun _ => rfl) ?_
  refine k_iload dX12_lookAt_257 rfl ?_
  refine k_iadd dX12_lookAt_259 ?_
  refine k_iald (tSk T L p) dX12_lookAt_260 (Nat.le_of_ble_eq_true rfl) sh_a98 (by decide) (by omega) (by omega) ?_
  rw [c0]
  refine k_iadd dX12_lookAt_261 ?_
  refine k_bipush dX12_lookAt_262 (by decide) ?_
  refine k_isub dX12_lookAt_264 ?_
  refine k_putI dX12_lookAt_265 f_X12_245 (Nat.le_of_ble_eq_true rfl) sh_o86 (fun _ => (Nat.le_of_ble_eq_true rfl)) rfl (fun _ => rfl) ?_
  refine k_iinc (L' := [_, _, _, _, _]) dX12_lookAt_268 rfl (Nat.le_of_ble_eq_true rfl) rfl ?_
  refine k_goto 218 dX12_lookAt_271 (by decide) ?_
  skip
  refine k_iload dX12_lookAt_218 rfl ?_
  refine k_aload_n dX12_lookAt_220 rfl ?_
  refine k_getI dX12_lookAt_221 f_X12_239 (Nat.le_of_ble_eq_true rfl) sh_o86 (fun _ => rfl) ?_
  try simp (disch := omega) only [ug_at, ug_nc, ug_np]
  refine k_icmp_ge 274 dX12_lookAt_224 (by decide) ⟨by decide, by decide⟩ ⟨by omega, by omega⟩ (fun h224 => absurd h224 (by omega)) (fun h224 => ?_)
  refine k_iload dX12_lookAt_227 rfl ?_
  refine k_iconst dX12_lookAt_229 ?_
  refine k_icmp_ge 274 dX12_lookAt_230 (by decide) ⟨by decide, by decide⟩ ⟨by decide, by decide⟩ (fun h230 => absurd h230 (by omega)) (fun h230 => ?_)
  refine k_aload_n dX12_lookAt_233 rfl ?_
  refine k_getI dX12_lookAt_234 f_X12_242 (Nat.le_of_ble_eq_true rfl) sh_o86 (fun _ => rfl) ?_
  refine k_iconst dX12_lookAt_237 ?_
  try simp (disch := omega) only [ug_at, ug_nc, ug_np]
  refine k_icmp_ne 274 dX12_lookAt_238 (by decide) ⟨by omega, by omega⟩ ⟨by decide, by decide⟩ (fun h238 => absurd h238 (by omega)) (fun h238 => ?_)
  refine k_aload_n dX12_lookAt_241 rfl ?_
  refine k_bipush dX12_lookAt_242 (by decide) ?_
  refine k_aload_n dX12_lookAt_244 rfl ?_
  refine k_getI dX12_lookAt_245 f_X12_245 (Nat.le_of_ble_eq_true rfl) sh_o86 (fun _ => rfl) ?_
  try simp (disch := omega) only [ug_at, ug_nc, ug_np]
  refine k_imul dX12_lookAt_248 ?_
  refine k_aload_n dX12_lookAt_249 rfl ?_
  refine k_getR dX12_lookAt_250 f_X12_48 (Nat.le_of_ble_eq_true rfl) sh_o86 (fun _ => rfl) ?_
  refine k_aload_n dX12_lookAt_253 rfl ?_
  refine k_getI dX12_lookAt_254 f_X12_236 (Nat.le_of_ble_eq_true rfl) sh_o86 (fun _ => rfl) ?_
  try simp (disch := omega) only [ug_at, ug_nc, ug_np]
  refine k_iload dX12_lookAt_257 rfl ?_
  refine k_iadd dX12_lookAt_259 ?_
  try simp (disch := omega) only [ug_at, ug_nc, ug_np]
  refine k_iald ((tSk T L p) + 1) dX12_lookAt_260 (Nat.le_of_ble_eq_true rfl) sh_a98 (by decide) (by omega) (by omega) ?_
  simp (disch := omega) only [ug_at, ug_nc, ug_np]
  rw [c1]
  refine k_iadd dX12_lookAt_261 ?_
  refine k_bipush dX12_lookAt_262 (by decide) ?_
  refine k_isub dX12_lookAt_264 ?_
  refine k_putI dX12_lookAt_265 f_X12_245 (Nat.le_of_ble_eq_true rfl) sh_o86 (fun _ => (Nat.le_of_ble_eq_true rfl)) rfl (fun _ => rfl) ?_
  refine k_iinc (L' := [_, _, _, _, _]) dX12_lookAt_268 rfl (Nat.le_of_ble_eq_true rfl) rfl ?_
  refine k_goto 218 dX12_lookAt_271 (by decide) ?_
  skip
  refine k_iload dX12_lookAt_218 rfl ?_
  refine k_aload_n dX12_lookAt_220 rfl ?_
  refine k_getI dX12_lookAt_221 f_X12_239 (Nat.le_of_ble_eq_true rfl) sh_o86 (fun _ => rfl) ?_
  try simp (disch := omega) only [ug_at, ug_nc, ug_np]
  refine k_icmp_ge 274 dX12_lookAt_224 (by decide) ⟨by decide, by decide⟩ ⟨by omega, by omega⟩ (fun h224 => ?_) (fun h224 => absurd h224 (by omega))
  refine k_aload_n dX12_lookAt_274 rfl ?_
  refine k_aload_n dX12_lookAt_275 rfl ?_
  refine k_getI dX12_lookAt_276 f_X12_242 (Nat.le_of_ble_eq_true rfl) sh_o86 (fun _ => rfl) ?_
  refine k_iconst dX12_lookAt_279 ?_
  try simp (disch := omega) only [ug_at, ug_nc, ug_np]
  refine k_icmp_ne 295 dX12_lookAt_280 (by decide) ⟨by omega, by omega⟩ ⟨by decide, by decide⟩ (fun h280 => absurd h280 (by omega)) (fun h280 => ?_)
  refine k_aload_n dX12_lookAt_283 rfl ?_
  refine k_getI dX12_lookAt_284 f_X12_239 (Nat.le_of_ble_eq_true rfl) sh_o86 (fun _ => rfl) ?_
  refine k_iconst dX12_lookAt_287 ?_
  try simp (disch := omega) only [ug_at, ug_nc, ug_np]
  refine k_icmp_le 295 dX12_lookAt_288 (by decide) ⟨by omega, by omega⟩ ⟨by decide, by decide⟩ (fun h288 => ?_) (fun h288 => absurd h288 (by omega))
  refine k_aload_n dX12_lookAt_295 rfl ?_
  refine k_getI dX12_lookAt_296 f_X12_242 (Nat.le_of_ble_eq_true rfl) sh_o86 (fun _ => rfl) ?_
  try simp (disch := omega) only [ug_at, ug_nc, ug_np]
  refine k_putI dX12_lookAt_299 f_X12_242 (Nat.le_of_ble_eq_true rfl) sh_o86 (fun _ => (Nat.le_of_ble_eq_true rfl)) rfl (fun _ => rfl) ?_
  exact k_ret dX12_lookAt_302 rfl ⟨rfl, (((hg.put ⟨by decide, by decide⟩).put ⟨by decide, by decide⟩).put ⟨by decide, by decide⟩), by simp (disch := omega) only [ug_at, ug_np]; exact h16, by simp (disch := omega) only [ug_at, ug_np]; rw [h17, el], by simp (disch := omega) only [ug_at, ug_np]; rw [ek]; exact h18, fun q => by simp (disch := omega) only [ug_at, ug_np]; rw [show tEn T L 48 57 (tSk T L p) - (tSk T L p) = 2 by omega]; omega⟩
theorem lp_lk323 {T : Nat → Int} {L : Nat} {G : Mem} (hT : TB T) (hB : BT T L G) {p : Nat} (hp : p ≤ L) (hs : tSk T L p < L) {fr c m : Int} {j4 : Option Value} {g : Mem} (hg : TF G g) (h16 : g 86 16 = (tSk T L p : Int)) (h17 : g 86 17 = ((tEn T L 48 57 (tSk T L p) - (tSk T L p) : Nat) : Int)) (h18 : g 86 18 = 2) (h19 : g 86 19 = 0) (hc : 48 ≤ T (tSk T L p) ∧ T (tSk T L p) ≤ 57) (he : (tSk T L p) + 2 < tEn T L 48 57 (tSk T L p)) : RP M_X12_lookAt 215 [some (.ref 86), some (.int (iI fr)), some (.int (iI c)), some (.int (iI m)), j4] [] g (vv fun k => TF G k ∧ TKS T L p k) := by
  have hb := tEn_p hs hc
  have hl2 := hB.2.1
  have v1 : q_num T (tSk T L p) 1 = 10 * 0 + T (tSk T L p) - 48 := rfl
  have v2 : q_num T (tSk T L p) 2 = 10 * (10 * 0 + T (tSk T L p) - 48) + T ((tSk T L p) + 1) - 48 := rfl
  have c0 := (hB.tf hg).2.2 (tSk T L p) hs
  have t0 := hT (tSk T L p)
  have c1 := (hB.tf hg).2.2 ((tSk T L p) + 1) (by omega)
  have t1 := hT ((tSk T L p) + 1)
  have ek : tKd T L (tSk T L p) = 4 := by unfold tKd; rw [if_neg (by omega), if_neg (by omega), if_pos hc]; first | exact if_pos he | exact if_neg (by omega)
  have el : tLn T L (tSk T L p) = tEn T L 48 57 (tSk T L p) - (tSk T L p) := by unfold tLn; rw [if_neg (by omega), if_neg (by omega), if_pos hc]
  refine k_iconst dX12_lookAt_215 ?_
  refine k_istore (L' := [_, _, _, _, _]) dX12_lookAt_216 (Nat.le_of_ble_eq_true rfl) rfl ?_
  skip
  refine k_iload dX12_lookAt_218 rfl ?_
  refine k_aload_n dX12_lookAt_220 rfl ?_
  refine k_getI dX12_lookAt_221 f_X12_239 (Nat.le_of_ble_eq_true rfl) sh_o86 (fun _ => rfl) ?_
  refine k_icmp_ge 274 dX12_lookAt_224 (by decide) ⟨by decide, by decide⟩ ⟨by omega, by omega⟩ (fun h224 => absurd h224 (by omega)) (fun h224 => ?_)
  refine k_iload dX12_lookAt_227 rfl ?_
  refine k_iconst dX12_lookAt_229 ?_
  refine k_icmp_ge 274 dX12_lookAt_230 (by decide) ⟨by decide, by decide⟩ ⟨by decide, by decide⟩ (fun h230 => absurd h230 (by omega)) (fun h230 => ?_)
  refine k_aload_n dX12_lookAt_233 rfl ?_
  refine k_getI dX12_lookAt_234 f_X12_242 (Nat.le_of_ble_eq_true rfl) sh_o86 (fun _ => rfl) ?_
  refine k_iconst dX12_lookAt_237 ?_
  refine k_icmp_ne 274 dX12_lookAt_238 (by decide) ⟨by omega, by omega⟩ ⟨by decide, by decide⟩ (fun h238 => absurd h238 (by omega)) (fun h238 => ?_)
  refine k_aload_n dX12_lookAt_241 rfl ?_
  refine k_bipush dX12_lookAt_242 (by decide) ?_
  refine k_aload_n dX12_lookAt_244 rfl ?_
  refine k_getI dX12_lookAt_245 f_X12_245 (Nat.le_of_ble_eq_true rfl) sh_o86 (fun _ => rfl) ?_
  refine k_imul dX12_lookAt_248 ?_
  refine k_aload_n dX12_lookAt_249 rfl ?_
  refine k_getR dX12_lookAt_250 f_X12_48 (Nat.le_of_ble_eq_true rfl) sh_o86 (fun _ => rfl) ?_
  refine k_aload_n dX12_lookAt_253 rfl ?_
  refine k_getI dX12_lookAt_254 f_X12_236 (Nat.le_of_ble_eq_true rfl) sh_o86 (fun _ => rfl) ?_
  refine k_iload dX12_lookAt_257 rfl ?_
  refine k_iadd dX12_lookAt_259 ?_
  refine k_iald (tSk T L p) dX12_lookAt_260 (Nat.le_of_ble_eq_true rfl) sh_a98 (by decide) (by omega) (by omega) ?_
  rw [c0]
  refine k_iadd dX12_lookAt_261 ?_
  refine k_bipush dX12_lookAt_262 (by decide) ?_
  refine k_isub dX12_lookAt_264 ?_
  refine k_putI dX12_lookAt_265 f_X12_245 (Nat.le_of_ble_eq_true rfl) sh_o86 (fun _ => (Nat.le_of_ble_eq_true rfl)) rfl (fun _ => rfl) ?_
  refine k_iinc (L' := [_, _, _, _, _]) dX12_lookAt_268 rfl (Nat.le_of_ble_eq_true rfl) rfl ?_
  refine k_goto 218 dX12_lookAt_271 (by decide) ?_
  skip
  refine k_iload dX12_lookAt_218 rfl ?_
  refine k_aload_n dX12_lookAt_220 rfl ?_
  refine k_getI dX12_lookAt_221 f_X12_239 (Nat.le_of_ble_eq_true rfl) sh_o86 (fun _ => rfl) ?_
  try simp (disch := omega) only [ug_at, ug_nc, ug_np]
  refine k_icmp_ge 274 dX12_lookAt_224 (by decide) ⟨by decide, by decide⟩ ⟨by omega, by omega⟩ (fun h224 => absurd h224 (by omega)) (fun h224 => ?_)
  refine k_iload dX12_lookAt_227 rfl ?_
  refine k_iconst dX12_lookAt_229 ?_
  refine k_icmp_ge 274 dX12_lookAt_230 (by decide) ⟨by decide, by decide⟩ ⟨by decide, by decide⟩ (fun h230 => absurd h230 (by omega)) (fun h230 => ?_)
  refine k_aload_n dX12_lookAt_233 rfl ?_
  refine k_getI dX12_lookAt_234 f_X12_242 (Nat.le_of_ble_eq_true rfl) sh_o86 (fun _ => rfl) ?_
  refine k_iconst dX12_lookAt_237 ?_
  try simp (disch := omega) only [ug_at, ug_nc, ug_np]
  refine k_icmp_ne 274 dX12_lookAt_238 (by decide) ⟨by omega, by omega⟩ ⟨by decide, by decide⟩ (fun h238 => absurd h238 (by omega)) (fun h238 => ?_)
  refine k_aload_n dX12_lookAt_241 rfl ?_
  refine k_bipush dX12_lookAt_242 (by decide) ?_
  refine k_aload_n dX12_lookAt_244 rfl ?_
  refine k_getI dX12_lookAt_245 f_X12_245 (Nat.le_of_ble_eq_true rfl) sh_o86 (fun _ => rfl) ?_
  try simp (disch := omega) only [ug_at, ug_nc, ug_np]
  refine k_imul dX12_lookAt_248 ?_
  refine k_aload_n dX12_lookAt_249 rfl ?_
  refine k_getR dX12_lookAt_250 f_X12_48 (Nat.le_of_ble_eq_true rfl) sh_o86 (fun _ => rfl) ?_
  refine k_aload_n dX12_lookAt_253 rfl ?_
  refine k_getI dX12_lookAt_254 f_X12_236 (Nat.le_of_ble_eq_true rfl) sh_o86 (fun _ => rfl) ?_
  try simp (disch := omega) only [ug_at, ug_nc, ug_np]
  refine k_iload dX12_lookAt_257 rfl ?_
  refine k_iadd dX12_lookAt_259 ?_
  try simp (disch := omega) only [ug_at, ug_nc, ug_np]
  refine k_iald ((tSk T L p) + 1) dX12_lookAt_260 (Nat.le_of_ble_eq_true rfl) sh_a98 (by decide) (by omega) (by omega) ?_
  simp (disch := omega) only [ug_at, ug_nc, ug_np]
  rw [c1]
  refine k_iadd dX12_lookAt_261 ?_
  refine k_bipush dX12_lookAt_262 (by decide) ?_
  refine k_isub dX12_lookAt_264 ?_
  refine k_putI dX12_lookAt_265 f_X12_245 (Nat.le_of_ble_eq_true rfl) sh_o86 (fun _ => (Nat.le_of_ble_eq_true rfl)) rfl (fun _ => rfl) ?_
  refine k_iinc (L' := [_, _, _, _, _]) dX12_lookAt_268 rfl (Nat.le_of_ble_eq_true rfl) rfl ?_
  refine k_goto 218 dX12_lookAt_271 (by decide) ?_
  skip
  refine k_iload dX12_lookAt_218 rfl ?_
  refine k_aload_n dX12_lookAt_220 rfl ?_
  refine k_getI dX12_lookAt_221 f_X12_239 (Nat.le_of_ble_eq_true rfl) sh_o86 (fun _ => rfl) ?_
  try simp (disch := omega) only [ug_at, ug_nc, ug_np]
  refine k_icmp_ge 274 dX12_lookAt_224 (by decide) ⟨by decide, by decide⟩ ⟨by omega, by omega⟩ (fun h224 => absurd h224 (by omega)) (fun h224 => ?_)
  refine k_iload dX12_lookAt_227 rfl ?_
  refine k_iconst dX12_lookAt_229 ?_
  refine k_icmp_ge 274 dX12_lookAt_230 (by decide) ⟨by decide, by decide⟩ ⟨by decide, by decide⟩ (fun h230 => ?_) (fun h230 => absurd h230 (by omega))
  refine k_aload_n dX12_lookAt_274 rfl ?_
  refine k_aload_n dX12_lookAt_275 rfl ?_
  refine k_getI dX12_lookAt_276 f_X12_242 (Nat.le_of_ble_eq_true rfl) sh_o86 (fun _ => rfl) ?_
  refine k_iconst dX12_lookAt_279 ?_
  try simp (disch := omega) only [ug_at, ug_nc, ug_np]
  refine k_icmp_ne 295 dX12_lookAt_280 (by decide) ⟨by omega, by omega⟩ ⟨by decide, by decide⟩ (fun h280 => absurd h280 (by omega)) (fun h280 => ?_)
  refine k_aload_n dX12_lookAt_283 rfl ?_
  refine k_getI dX12_lookAt_284 f_X12_239 (Nat.le_of_ble_eq_true rfl) sh_o86 (fun _ => rfl) ?_
  refine k_iconst dX12_lookAt_287 ?_
  try simp (disch := omega) only [ug_at, ug_nc, ug_np]
  refine k_icmp_le 295 dX12_lookAt_288 (by decide) ⟨by omega, by omega⟩ ⟨by decide, by decide⟩ (fun h288 => absurd h288 (by omega)) (fun h288 => ?_)
  refine k_iconst dX12_lookAt_291 ?_
  refine k_goto 299 dX12_lookAt_292 (by decide) ?_
  try simp (disch := omega) only [ug_at, ug_nc, ug_np]
  refine k_putI dX12_lookAt_299 f_X12_242 (Nat.le_of_ble_eq_true rfl) sh_o86 (fun _ => (Nat.le_of_ble_eq_true rfl)) rfl (fun _ => rfl) ?_
  exact k_ret dX12_lookAt_302 rfl ⟨rfl, (((hg.put ⟨by decide, by decide⟩).put ⟨by decide, by decide⟩).put ⟨by decide, by decide⟩), by simp (disch := omega) only [ug_at, ug_np]; exact h16, by simp (disch := omega) only [ug_at, ug_np]; rw [h17, el], by simp (disch := omega) only [ug_at, ug_np]; rw [ek], fun q => by simp (disch := omega) only [ug_at, ug_np]; rw [ek] at q; exact absurd q (by decide)⟩
theorem m_xLookAt {T : Nat → Int} {L : Nat} {G : Mem} (hT : TB T) (hB : BT T L G) {p : Nat} (hp : p ≤ L)  : MP M_X12_lookAt [.ref 86, .int (iI (p : Int))] G (vv fun k => TF G k ∧ TKS T L p k) := by
  refine MP.of [some (.ref 86), some (.int (iI (p : Int))), none, none, none] (plainFor_of_name pn_X12) (Nat.le_of_ble_eq_true rfl) rfl ?_
  refine k_aload_n dX12_lookAt_0 rfl ?_
  refine k_iload_n dX12_lookAt_1 rfl ?_
  refine k_putI dX12_lookAt_2 f_X12_236 (Nat.le_of_ble_eq_true rfl) sh_o86 (fun _ => (Nat.le_of_ble_eq_true rfl)) rfl (fun _ => rfl) ?_
  refine lp_lk1 hT hB hp (fun g hg h16 => ?_) (L - p) p _ (by omega) (TF.rf.put ⟨by decide, by decide⟩) (by rw [ug_at]) rfl
  have hl := (hB.tf hg).1
  have hl2 := hB.2.1
  have hsb := tSk_b (T := T) hp
  rcases (show (tSk T L p) = L ∨ (tSk T L p) < L by omega) with hs | hs
  · skip
    refine k_aload_n dX12_lookAt_43 rfl ?_
    refine k_iconst dX12_lookAt_44 ?_
    refine k_putI dX12_lookAt_45 f_X12_239 (Nat.le_of_ble_eq_true rfl) sh_o86 (fun _ => (Nat.le_of_ble_eq_true rfl)) rfl (fun _ => rfl) ?_
    refine k_aload_n dX12_lookAt_48 rfl ?_
    refine k_iconst dX12_lookAt_49 ?_
    refine k_putI dX12_lookAt_50 f_X12_242 (Nat.le_of_ble_eq_true rfl) sh_o86 (fun _ => (Nat.le_of_ble_eq_true rfl)) rfl (fun _ => rfl) ?_
    refine k_aload_n dX12_lookAt_53 rfl ?_
    refine k_iconst dX12_lookAt_54 ?_
    refine k_putI dX12_lookAt_55 f_X12_245 (Nat.le_of_ble_eq_true rfl) sh_o86 (fun _ => (Nat.le_of_ble_eq_true rfl)) rfl (fun _ => rfl) ?_
    refine k_aload_n dX12_lookAt_58 rfl ?_
    refine k_getI dX12_lookAt_59 f_X12_236 (Nat.le_of_ble_eq_true rfl) sh_o86 (fun _ => rfl) ?_
    refine k_aload_n dX12_lookAt_62 rfl ?_
    refine k_getI dX12_lookAt_63 f_X12_225 (Nat.le_of_ble_eq_true rfl) sh_o86 (fun _ => rfl) ?_
    try simp (disch := omega) only [ug_at, ug_nc, ug_np]
    refine k_icmp_ne 70 dX12_lookAt_66 (by decide) ⟨by omega, by omega⟩ ⟨by omega, by omega⟩ (fun h66 => absurd h66 (by omega)) (fun h66 => ?_)
    exact k_ret dX12_lookAt_69 rfl ⟨rfl, ((hg.put ⟨by decide, by decide⟩).put ⟨by decide, by decide⟩).put ⟨by decide, by decide⟩, by simp (disch := omega) only [ug_at, ug_np]; exact h16, by simp (disch := omega) only [ug_at, ug_np]; unfold tLn; rw [if_pos (by omega)]; rfl, by simp (disch := omega) only [ug_at, ug_np]; unfold tKd; exact (if_pos (by omega)).symm, fun q => by unfold tKd at q; rw [if_pos (by omega)] at q; exact absurd q (by decide)⟩
  have hb := (hB.tf hg).2.2 (tSk T L p) hs
  have ht := hT (tSk T L p)
  rcases (show (97 ≤ T (tSk T L p) ∧ T (tSk T L p) ≤ 122) ∨ (48 ≤ T (tSk T L p) ∧ T (tSk T L p) ≤ 57) ∨ T (tSk T L p) = 59 ∨ (¬ (97 ≤ T (tSk T L p) ∧ T (tSk T L p) ≤ 122) ∧ ¬ (48 ≤ T (tSk T L p) ∧ T (tSk T L p) ≤ 57) ∧ ¬ T (tSk T L p) = 59) by omega) with hc | hc | hc | hc
  · have he := tEn_p hs hc
    refine k_aload_n dX12_lookAt_43 rfl ?_
    refine k_iconst dX12_lookAt_44 ?_
    refine k_putI dX12_lookAt_45 f_X12_239 (Nat.le_of_ble_eq_true rfl) sh_o86 (fun _ => (Nat.le_of_ble_eq_true rfl)) rfl (fun _ => rfl) ?_
    refine k_aload_n dX12_lookAt_48 rfl ?_
    refine k_iconst dX12_lookAt_49 ?_
    refine k_putI dX12_lookAt_50 f_X12_242 (Nat.le_of_ble_eq_true rfl) sh_o86 (fun _ => (Nat.le_of_ble_eq_true rfl)) rfl (fun _ => rfl) ?_
    refine k_aload_n dX12_lookAt_53 rfl ?_
    refine k_iconst dX12_lookAt_54 ?_
    refine k_putI dX12_lookAt_55 f_X12_245 (Nat.le_of_ble_eq_true rfl) sh_o86 (fun _ => (Nat.le_of_ble_eq_true rfl)) rfl (fun _ => rfl) ?_
    refine k_aload_n dX12_lookAt_58 rfl ?_
    refine k_getI dX12_lookAt_59 f_X12_236 (Nat.le_of_ble_eq_true rfl) sh_o86 (fun _ => rfl) ?_
    refine k_aload_n dX12_lookAt_62 rfl ?_
    refine k_getI dX12_lookAt_63 f_X12_225 (Nat.le_of_ble_eq_true rfl) sh_o86 (fun _ => rfl) ?_
    try simp (disch := omega) only [ug_at, ug_nc, ug_np]
    refine k_icmp_ne 70 dX12_lookAt_66 (by decide) ⟨by omega, by omega⟩ ⟨by omega, by omega⟩ (fun h66 => ?_) (fun h66 => absurd h66 (by omega))
    refine k_aload_n dX12_lookAt_70 rfl ?_
    refine k_getR dX12_lookAt_71 f_X12_48 (Nat.le_of_ble_eq_true rfl) sh_o86 (fun _ => rfl) ?_
    refine k_aload_n dX12_lookAt_74 rfl ?_
    try simp (disch := omega) only [ug_at, ug_nc, ug_np]
    refine k_getI dX12_lookAt_75 f_X12_236 (Nat.le_of_ble_eq_true rfl) sh_o86 (fun _ => rfl) ?_
    try simp (disch := omega) only [ug_at, ug_nc, ug_np]
    refine k_iald (tSk T L p) dX12_lookAt_78 (Nat.le_of_ble_eq_true rfl) sh_a98 (by decide) (by omega) (by omega) ?_
    try simp (disch := omega) only [ug_at, ug_nc, ug_np]
    rw [hb]
    refine k_istore_n (L' := [_, _, _, _, _]) dX12_lookAt_79 (Nat.le_of_ble_eq_true rfl) rfl ?_
    refine k_aload_n dX12_lookAt_80 rfl ?_
    refine k_iload_n dX12_lookAt_81 rfl ?_
    refine k_callSi [.int (iI _)] dX12_lookAt_82 s_X12_lookAt_248 rfl (m_xisSmall (by omega)) rfl (Nat.le_of_ble_eq_true rfl) ?_
    rintro _ _ ⟨rfl, rfl⟩
    refine k_ifb_eq 92 dX12_lookAt_85 (by decide) (fun h85 => absurd h85 (by omega)) (fun h85 => ?_)
    refine k_iconst dX12_lookAt_88 ?_
    refine k_goto 114 dX12_lookAt_89 (by decide) ?_
    refine k_putI dX12_lookAt_114 f_X12_242 (Nat.le_of_ble_eq_true rfl) sh_o86 (fun _ => (Nat.le_of_ble_eq_true rfl)) rfl (fun _ => rfl) ?_
    refine k_aload_n dX12_lookAt_117 rfl ?_
    refine k_iconst dX12_lookAt_118 ?_
    refine k_putI dX12_lookAt_119 f_X12_239 (Nat.le_of_ble_eq_true rfl) sh_o86 (fun _ => (Nat.le_of_ble_eq_true rfl)) rfl (fun _ => rfl) ?_
    refine k_aload_n dX12_lookAt_122 rfl ?_
    refine k_getI dX12_lookAt_123 f_X12_242 (Nat.le_of_ble_eq_true rfl) sh_o86 (fun _ => rfl) ?_
    try simp (disch := omega) only [ug_at, ug_nc, ug_np]
    refine k_iconst dX12_lookAt_126 ?_
    refine k_icmp_ge 134 dX12_lookAt_127 (by decide) ⟨by omega, by omega⟩ ⟨by decide, by decide⟩ (fun h127 => absurd h127 (by omega)) (fun h127 => ?_)
    refine k_iconst dX12_lookAt_130 ?_
    refine k_goto 135 dX12_lookAt_131 (by decide) ?_
    refine k_istore_n (L' := [_, _, _, _, _]) dX12_lookAt_135 (Nat.le_of_ble_eq_true rfl) rfl ?_
    refine lp_lk21 (G := G) hT hB (s := (tSk T L p)) (E := tEn T L 97 122 (tSk T L p)) (fun g2 m j4 k1 k2 k3 k4 k5 => lp_lk31 hT hB hp hs k1 k2 k3 k4 hc) (L - ((tSk T L p) + 1)) 1 _ _ (by omega) (by decide) ?_ ?_ ?_ ?_ ?_ (tEn_1 hs hc).symm
    · exact ((((hg.put ⟨by decide, by decide⟩).put ⟨by decide, by decide⟩).put ⟨by decide, by decide⟩).put ⟨by decide, by decide⟩).put ⟨by decide, by decide⟩
    all_goals simp (disch := omega) only [ug_at, ug_np]
    all_goals first | exact h16 | rfl
  · have he := tEn_p hs hc
    refine k_aload_n dX12_lookAt_43 rfl ?_
    refine k_iconst dX12_lookAt_44 ?_
    refine k_putI dX12_lookAt_45 f_X12_239 (Nat.le_of_ble_eq_true rfl) sh_o86 (fun _ => (Nat.le_of_ble_eq_true rfl)) rfl (fun _ => rfl) ?_
    refine k_aload_n dX12_lookAt_48 rfl ?_
    refine k_iconst dX12_lookAt_49 ?_
    refine k_putI dX12_lookAt_50 f_X12_242 (Nat.le_of_ble_eq_true rfl) sh_o86 (fun _ => (Nat.le_of_ble_eq_true rfl)) rfl (fun _ => rfl) ?_
    refine k_aload_n dX12_lookAt_53 rfl ?_
    refine k_iconst dX12_lookAt_54 ?_
    refine k_putI dX12_lookAt_55 f_X12_245 (Nat.le_of_ble_eq_true rfl) sh_o86 (fun _ => (Nat.le_of_ble_eq_true rfl)) rfl (fun _ => rfl) ?_
    refine k_aload_n dX12_lookAt_58 rfl ?_
    refine k_getI dX12_lookAt_59 f_X12_236 (Nat.le_of_ble_eq_true rfl) sh_o86 (fun _ => rfl) ?_
    refine k_aload_n dX12_lookAt_62 rfl ?_
    refine k_getI dX12_lookAt_63 f_X12_225 (Nat.le_of_ble_eq_true rfl) sh_o86 (fun _ => rfl) ?_
    try simp (disch := omega) only [ug_at, ug_nc, ug_np]
    refine k_icmp_ne 70 dX12_lookAt_66 (by decide) ⟨by omega, by omega⟩ ⟨by omega, by omega⟩ (fun h66 => ?_) (fun h66 => absurd h66 (by omega))
    refine k_aload_n dX12_lookAt_70 rfl ?_
    refine k_getR dX12_lookAt_71 f_X12_48 (Nat.le_of_ble_eq_true rfl) sh_o86 (fun _ => rfl) ?_
    refine k_aload_n dX12_lookAt_74 rfl ?_
    try simp (disch := omega) only [ug_at, ug_nc, ug_np]
    refine k_getI dX12_lookAt_75 f_X12_236 (Nat.le_of_ble_eq_true rfl) sh_o86 (fun _ => rfl) ?_
    try simp (disch := omega) only [ug_at, ug_nc, ug_np]
    refine k_iald (tSk T L p) dX12_lookAt_78 (Nat.le_of_ble_eq_true rfl) sh_a98 (by decide) (by omega) (by omega) ?_
    try simp (disch := omega) only [ug_at, ug_nc, ug_np]
    rw [hb]
    refine k_istore_n (L' := [_, _, _, _, _]) dX12_lookAt_79 (Nat.le_of_ble_eq_true rfl) rfl ?_
    refine k_aload_n dX12_lookAt_80 rfl ?_
    refine k_iload_n dX12_lookAt_81 rfl ?_
    refine k_callSi [.int (iI _)] dX12_lookAt_82 s_X12_lookAt_248 rfl (m_xisSmall (by omega)) rfl (Nat.le_of_ble_eq_true rfl) ?_
    rintro _ _ ⟨rfl, rfl⟩
    refine k_ifb_eq 92 dX12_lookAt_85 (by decide) (fun h85 => ?_) (fun h85 => absurd h85 (by omega))
    refine k_iload_n dX12_lookAt_92 rfl ?_
    refine k_callSi [.int (iI _)] dX12_lookAt_93 s_X12_lookAt_251 rfl (m_xisFigure (by omega)) rfl (Nat.le_of_ble_eq_true rfl) ?_
    rintro _ _ ⟨rfl, rfl⟩
    refine k_ifb_eq 103 dX12_lookAt_96 (by decide) (fun h96 => absurd h96 (by omega)) (fun h96 => ?_)
    refine k_iconst dX12_lookAt_99 ?_
    refine k_goto 114 dX12_lookAt_100 (by decide) ?_
    refine k_putI dX12_lookAt_114 f_X12_242 (Nat.le_of_ble_eq_true rfl) sh_o86 (fun _ => (Nat.le_of_ble_eq_true rfl)) rfl (fun _ => rfl) ?_
    refine k_aload_n dX12_lookAt_117 rfl ?_
    refine k_iconst dX12_lookAt_118 ?_
    refine k_putI dX12_lookAt_119 f_X12_239 (Nat.le_of_ble_eq_true rfl) sh_o86 (fun _ => (Nat.le_of_ble_eq_true rfl)) rfl (fun _ => rfl) ?_
    refine k_aload_n dX12_lookAt_122 rfl ?_
    refine k_getI dX12_lookAt_123 f_X12_242 (Nat.le_of_ble_eq_true rfl) sh_o86 (fun _ => rfl) ?_
    try simp (disch := omega) only [ug_at, ug_nc, ug_np]
    refine k_iconst dX12_lookAt_126 ?_
    refine k_icmp_ge 134 dX12_lookAt_127 (by decide) ⟨by omega, by omega⟩ ⟨by decide, by decide⟩ (fun h127 => absurd h127 (by omega)) (fun h127 => ?_)
    refine k_iconst dX12_lookAt_130 ?_
    refine k_goto 135 dX12_lookAt_131 (by decide) ?_
    refine k_istore_n (L' := [_, _, _, _, _]) dX12_lookAt_135 (Nat.le_of_ble_eq_true rfl) rfl ?_
    refine lp_lk22 (G := G) hT hB (s := (tSk T L p)) (E := tEn T L 48 57 (tSk T L p)) (fun g2 m j4 k1 k2 k3 k4 k5 => ?_) (L - ((tSk T L p) + 1)) 1 _ _ (by omega) (by decide) ?_ ?_ ?_ ?_ ?_ (tEn_1 hs hc).symm
    · rcases (show tEn T L 48 57 (tSk T L p) = (tSk T L p) + 1 ∨ tEn T L 48 57 (tSk T L p) = (tSk T L p) + 2 ∨ (tSk T L p) + 2 < tEn T L 48 57 (tSk T L p) by omega) with q | q | q
      · exact lp_lk321 hT hB hp hs k1 k2 k3 k4 k5 hc q
      · exact lp_lk322 hT hB hp hs k1 k2 k3 k4 k5 hc q
      · exact lp_lk323 hT hB hp hs k1 k2 k3 k4 k5 hc q
    · exact ((((hg.put ⟨by decide, by decide⟩).put ⟨by decide, by decide⟩).put ⟨by decide, by decide⟩).put ⟨by decide, by decide⟩).put ⟨by decide, by decide⟩
    all_goals simp (disch := omega) only [ug_at, ug_np]
    all_goals first | exact h16 | rfl
  · have ek : tKd T L (tSk T L p) = 3 := by unfold tKd; rw [if_neg (by omega), if_neg (by omega), if_neg (by omega)]; first | exact if_pos hc | exact if_neg (by omega)
    have el : tLn T L (tSk T L p) = 1 := by unfold tLn; rw [if_neg (by omega), if_neg (by omega), if_neg (by omega)]
    refine k_aload_n dX12_lookAt_43 rfl ?_
    refine k_iconst dX12_lookAt_44 ?_
    refine k_putI dX12_lookAt_45 f_X12_239 (Nat.le_of_ble_eq_true rfl) sh_o86 (fun _ => (Nat.le_of_ble_eq_true rfl)) rfl (fun _ => rfl) ?_
    refine k_aload_n dX12_lookAt_48 rfl ?_
    refine k_iconst dX12_lookAt_49 ?_
    refine k_putI dX12_lookAt_50 f_X12_242 (Nat.le_of_ble_eq_true rfl) sh_o86 (fun _ => (Nat.le_of_ble_eq_true rfl)) rfl (fun _ => rfl) ?_
    refine k_aload_n dX12_lookAt_53 rfl ?_
    refine k_iconst dX12_lookAt_54 ?_
    refine k_putI dX12_lookAt_55 f_X12_245 (Nat.le_of_ble_eq_true rfl) sh_o86 (fun _ => (Nat.le_of_ble_eq_true rfl)) rfl (fun _ => rfl) ?_
    refine k_aload_n dX12_lookAt_58 rfl ?_
    refine k_getI dX12_lookAt_59 f_X12_236 (Nat.le_of_ble_eq_true rfl) sh_o86 (fun _ => rfl) ?_
    refine k_aload_n dX12_lookAt_62 rfl ?_
    refine k_getI dX12_lookAt_63 f_X12_225 (Nat.le_of_ble_eq_true rfl) sh_o86 (fun _ => rfl) ?_
    try simp (disch := omega) only [ug_at, ug_nc, ug_np]
    refine k_icmp_ne 70 dX12_lookAt_66 (by decide) ⟨by omega, by omega⟩ ⟨by omega, by omega⟩ (fun h66 => ?_) (fun h66 => absurd h66 (by omega))
    refine k_aload_n dX12_lookAt_70 rfl ?_
    refine k_getR dX12_lookAt_71 f_X12_48 (Nat.le_of_ble_eq_true rfl) sh_o86 (fun _ => rfl) ?_
    refine k_aload_n dX12_lookAt_74 rfl ?_
    try simp (disch := omega) only [ug_at, ug_nc, ug_np]
    refine k_getI dX12_lookAt_75 f_X12_236 (Nat.le_of_ble_eq_true rfl) sh_o86 (fun _ => rfl) ?_
    try simp (disch := omega) only [ug_at, ug_nc, ug_np]
    refine k_iald (tSk T L p) dX12_lookAt_78 (Nat.le_of_ble_eq_true rfl) sh_a98 (by decide) (by omega) (by omega) ?_
    try simp (disch := omega) only [ug_at, ug_nc, ug_np]
    rw [hb]
    refine k_istore_n (L' := [_, _, _, _, _]) dX12_lookAt_79 (Nat.le_of_ble_eq_true rfl) rfl ?_
    refine k_aload_n dX12_lookAt_80 rfl ?_
    refine k_iload_n dX12_lookAt_81 rfl ?_
    refine k_callSi [.int (iI _)] dX12_lookAt_82 s_X12_lookAt_248 rfl (m_xisSmall (by omega)) rfl (Nat.le_of_ble_eq_true rfl) ?_
    rintro _ _ ⟨rfl, rfl⟩
    refine k_ifb_eq 92 dX12_lookAt_85 (by decide) (fun h85 => ?_) (fun h85 => absurd h85 (by omega))
    refine k_iload_n dX12_lookAt_92 rfl ?_
    refine k_callSi [.int (iI _)] dX12_lookAt_93 s_X12_lookAt_251 rfl (m_xisFigure (by omega)) rfl (Nat.le_of_ble_eq_true rfl) ?_
    rintro _ _ ⟨rfl, rfl⟩
    refine k_ifb_eq 103 dX12_lookAt_96 (by decide) (fun h96 => ?_) (fun h96 => absurd h96 (by omega))
    refine k_iload_n dX12_lookAt_103 rfl ?_
    refine k_bipush dX12_lookAt_104 (by decide) ?_
    refine k_icmp_ne 113 dX12_lookAt_106 (by decide) ⟨by omega, by omega⟩ ⟨by decide, by decide⟩ (fun h106 => absurd h106 (by omega)) (fun h106 => ?_)
    refine k_iconst dX12_lookAt_109 ?_
    refine k_goto 114 dX12_lookAt_110 (by decide) ?_
    refine k_putI dX12_lookAt_114 f_X12_242 (Nat.le_of_ble_eq_true rfl) sh_o86 (fun _ => (Nat.le_of_ble_eq_true rfl)) rfl (fun _ => rfl) ?_
    refine k_aload_n dX12_lookAt_117 rfl ?_
    refine k_iconst dX12_lookAt_118 ?_
    refine k_putI dX12_lookAt_119 f_X12_239 (Nat.le_of_ble_eq_true rfl) sh_o86 (fun _ => (Nat.le_of_ble_eq_true rfl)) rfl (fun _ => rfl) ?_
    refine k_aload_n dX12_lookAt_122 rfl ?_
    refine k_getI dX12_lookAt_123 f_X12_242 (Nat.le_of_ble_eq_true rfl) sh_o86 (fun _ => rfl) ?_
    try simp (disch := omega) only [ug_at, ug_nc, ug_np]
    refine k_iconst dX12_lookAt_126 ?_
    refine k_icmp_ge 134 dX12_lookAt_127 (by decide) ⟨by omega, by omega⟩ ⟨by decide, by decide⟩ (fun h127 => ?_) (fun h127 => absurd h127 (by omega))
    refine k_iconst dX12_lookAt_134 ?_
    refine k_istore_n (L' := [_, _, _, _, _]) dX12_lookAt_135 (Nat.le_of_ble_eq_true rfl) rfl ?_
    refine k_iload_n dX12_lookAt_136 rfl ?_
    refine k_if_eq 215 dX12_lookAt_137 (by decide) ⟨by decide, by decide⟩ (fun _ => ?_) (fun h => False.elim (by revert h; decide))
    refine k_iconst dX12_lookAt_215 ?_
    refine k_istore (L' := [_, _, _, _, _]) dX12_lookAt_216 (Nat.le_of_ble_eq_true rfl) rfl ?_
    refine k_iload dX12_lookAt_218 rfl ?_
    refine k_aload_n dX12_lookAt_220 rfl ?_
    refine k_getI dX12_lookAt_221 f_X12_239 (Nat.le_of_ble_eq_true rfl) sh_o86 (fun _ => rfl) ?_
    try simp (disch := omega) only [ug_at, ug_nc, ug_np]
    refine k_icmp_ge 274 dX12_lookAt_224 (by decide) ⟨by decide, by decide⟩ ⟨by omega, by omega⟩ (fun h224 => absurd h224 (by omega)) (fun h224 => ?_)
    refine k_iload dX12_lookAt_227 rfl ?_
    refine k_iconst dX12_lookAt_229 ?_
    refine k_icmp_ge 274 dX12_lookAt_230 (by decide) ⟨by decide, by decide⟩ ⟨by decide, by decide⟩ (fun h => False.elim (by revert h; decide)) (fun _ => ?_)
    refine k_aload_n dX12_lookAt_233 rfl ?_
    refine k_getI dX12_lookAt_234 f_X12_242 (Nat.le_of_ble_eq_true rfl) sh_o86 (fun _ => rfl) ?_
    try simp (disch := omega) only [ug_at, ug_nc, ug_np]
    refine k_iconst dX12_lookAt_237 ?_
    try simp (disch := omega) only [ug_at, ug_nc, ug_np]
    refine k_icmp_ne 274 dX12_lookAt_238 (by decide) ⟨by omega, by omega⟩ ⟨by decide, by decide⟩ (fun h238 => ?_) (fun h238 => absurd h238 (by omega))
    refine k_aload_n dX12_lookAt_274 rfl ?_
    refine k_aload_n dX12_lookAt_275 rfl ?_
    refine k_getI dX12_lookAt_276 f_X12_242 (Nat.le_of_ble_eq_true rfl) sh_o86 (fun _ => rfl) ?_
    try simp (disch := omega) only [ug_at, ug_nc, ug_np]
    refine k_iconst dX12_lookAt_279 ?_
    try simp (disch := omega) only [ug_at, ug_nc, ug_np]
    refine k_icmp_ne 295 dX12_lookAt_280 (by decide) ⟨by omega, by omega⟩ ⟨by decide, by decide⟩ (fun h280 => ?_) (fun h280 => absurd h280 (by omega))
    refine k_aload_n dX12_lookAt_295 rfl ?_
    refine k_getI dX12_lookAt_296 f_X12_242 (Nat.le_of_ble_eq_true rfl) sh_o86 (fun _ => rfl) ?_
    try simp (disch := omega) only [ug_at, ug_nc, ug_np]
    refine k_putI dX12_lookAt_299 f_X12_242 (Nat.le_of_ble_eq_true rfl) sh_o86 (fun _ => (Nat.le_of_ble_eq_true rfl)) rfl (fun _ => rfl) ?_
    exact k_ret dX12_lookAt_302 rfl ⟨rfl, (((((hg.put ⟨by decide, by decide⟩).put ⟨by decide, by decide⟩).put ⟨by decide, by decide⟩).put ⟨by decide, by decide⟩).put ⟨by decide, by decide⟩).put ⟨by decide, by decide⟩, by simp (disch := omega) only [ug_at, ug_np]; exact h16, by simp (disch := omega) only [ug_at, ug_np]; rw [el]; rfl, by simp (disch := omega) only [ug_at, ug_np]; rw [ek], fun q => by rw [ek] at q; exact absurd q (by decide)⟩
  · have ek : tKd T L (tSk T L p) = 4 := by unfold tKd; rw [if_neg (by omega), if_neg (by omega), if_neg (by omega)]; first | exact if_pos hc | exact if_neg (by omega)
    have el : tLn T L (tSk T L p) = 1 := by unfold tLn; rw [if_neg (by omega), if_neg (by omega), if_neg (by omega)]
    refine k_aload_n dX12_lookAt_43 rfl ?_
    refine k_iconst dX12_lookAt_44 ?_
    refine k_putI dX12_lookAt_45 f_X12_239 (Nat.le_of_ble_eq_true rfl) sh_o86 (fun _ => (Nat.le_of_ble_eq_true rfl)) rfl (fun _ => rfl) ?_
    refine k_aload_n dX12_lookAt_48 rfl ?_
    refine k_iconst dX12_lookAt_49 ?_
    refine k_putI dX12_lookAt_50 f_X12_242 (Nat.le_of_ble_eq_true rfl) sh_o86 (fun _ => (Nat.le_of_ble_eq_true rfl)) rfl (fun _ => rfl) ?_
    refine k_aload_n dX12_lookAt_53 rfl ?_
    refine k_iconst dX12_lookAt_54 ?_
    refine k_putI dX12_lookAt_55 f_X12_245 (Nat.le_of_ble_eq_true rfl) sh_o86 (fun _ => (Nat.le_of_ble_eq_true rfl)) rfl (fun _ => rfl) ?_
    refine k_aload_n dX12_lookAt_58 rfl ?_
    refine k_getI dX12_lookAt_59 f_X12_236 (Nat.le_of_ble_eq_true rfl) sh_o86 (fun _ => rfl) ?_
    refine k_aload_n dX12_lookAt_62 rfl ?_
    refine k_getI dX12_lookAt_63 f_X12_225 (Nat.le_of_ble_eq_true rfl) sh_o86 (fun _ => rfl) ?_
    try simp (disch := omega) only [ug_at, ug_nc, ug_np]
    refine k_icmp_ne 70 dX12_lookAt_66 (by decide) ⟨by omega, by omega⟩ ⟨by omega, by omega⟩ (fun h66 => ?_) (fun h66 => absurd h66 (by omega))
    refine k_aload_n dX12_lookAt_70 rfl ?_
    refine k_getR dX12_lookAt_71 f_X12_48 (Nat.le_of_ble_eq_true rfl) sh_o86 (fun _ => rfl) ?_
    refine k_aload_n dX12_lookAt_74 rfl ?_
    try simp (disch := omega) only [ug_at, ug_nc, ug_np]
    refine k_getI dX12_lookAt_75 f_X12_236 (Nat.le_of_ble_eq_true rfl) sh_o86 (fun _ => rfl) ?_
    try simp (disch := omega) only [ug_at, ug_nc, ug_np]
    refine k_iald (tSk T L p) dX12_lookAt_78 (Nat.le_of_ble_eq_true rfl) sh_a98 (by decide) (by omega) (by omega) ?_
    try simp (disch := omega) only [ug_at, ug_nc, ug_np]
    rw [hb]
    refine k_istore_n (L' := [_, _, _, _, _]) dX12_lookAt_79 (Nat.le_of_ble_eq_true rfl) rfl ?_
    refine k_aload_n dX12_lookAt_80 rfl ?_
    refine k_iload_n dX12_lookAt_81 rfl ?_
    refine k_callSi [.int (iI _)] dX12_lookAt_82 s_X12_lookAt_248 rfl (m_xisSmall (by omega)) rfl (Nat.le_of_ble_eq_true rfl) ?_
    rintro _ _ ⟨rfl, rfl⟩
    refine k_ifb_eq 92 dX12_lookAt_85 (by decide) (fun h85 => ?_) (fun h85 => absurd h85 (by omega))
    refine k_iload_n dX12_lookAt_92 rfl ?_
    refine k_callSi [.int (iI _)] dX12_lookAt_93 s_X12_lookAt_251 rfl (m_xisFigure (by omega)) rfl (Nat.le_of_ble_eq_true rfl) ?_
    rintro _ _ ⟨rfl, rfl⟩
    refine k_ifb_eq 103 dX12_lookAt_96 (by decide) (fun h96 => ?_) (fun h96 => absurd h96 (by omega))
    refine k_iload_n dX12_lookAt_103 rfl ?_
    refine k_bipush dX12_lookAt_104 (by decide) ?_
    refine k_icmp_ne 113 dX12_lookAt_106 (by decide) ⟨by omega, by omega⟩ ⟨by decide, by decide⟩ (fun h106 => ?_) (fun h106 => absurd h106 (by omega))
    refine k_iconst dX12_lookAt_113 ?_
    refine k_putI dX12_lookAt_114 f_X12_242 (Nat.le_of_ble_eq_true rfl) sh_o86 (fun _ => (Nat.le_of_ble_eq_true rfl)) rfl (fun _ => rfl) ?_
    refine k_aload_n dX12_lookAt_117 rfl ?_
    refine k_iconst dX12_lookAt_118 ?_
    refine k_putI dX12_lookAt_119 f_X12_239 (Nat.le_of_ble_eq_true rfl) sh_o86 (fun _ => (Nat.le_of_ble_eq_true rfl)) rfl (fun _ => rfl) ?_
    refine k_aload_n dX12_lookAt_122 rfl ?_
    refine k_getI dX12_lookAt_123 f_X12_242 (Nat.le_of_ble_eq_true rfl) sh_o86 (fun _ => rfl) ?_
    try simp (disch := omega) only [ug_at, ug_nc, ug_np]
    refine k_iconst dX12_lookAt_126 ?_
    refine k_icmp_ge 134 dX12_lookAt_127 (by decide) ⟨by omega, by omega⟩ ⟨by decide, by decide⟩ (fun h127 => ?_) (fun h127 => absurd h127 (by omega))
    refine k_iconst dX12_lookAt_134 ?_
    refine k_istore_n (L' := [_, _, _, _, _]) dX12_lookAt_135 (Nat.le_of_ble_eq_true rfl) rfl ?_
    refine k_iload_n dX12_lookAt_136 rfl ?_
    refine k_if_eq 215 dX12_lookAt_137 (by decide) ⟨by decide, by decide⟩ (fun _ => ?_) (fun h => False.elim (by revert h; decide))
    refine k_iconst dX12_lookAt_215 ?_
    refine k_istore (L' := [_, _, _, _, _]) dX12_lookAt_216 (Nat.le_of_ble_eq_true rfl) rfl ?_
    refine k_iload dX12_lookAt_218 rfl ?_
    refine k_aload_n dX12_lookAt_220 rfl ?_
    refine k_getI dX12_lookAt_221 f_X12_239 (Nat.le_of_ble_eq_true rfl) sh_o86 (fun _ => rfl) ?_
    try simp (disch := omega) only [ug_at, ug_nc, ug_np]
    refine k_icmp_ge 274 dX12_lookAt_224 (by decide) ⟨by decide, by decide⟩ ⟨by omega, by omega⟩ (fun h224 => absurd h224 (by omega)) (fun h224 => ?_)
    refine k_iload dX12_lookAt_227 rfl ?_
    refine k_iconst dX12_lookAt_229 ?_
    refine k_icmp_ge 274 dX12_lookAt_230 (by decide) ⟨by decide, by decide⟩ ⟨by decide, by decide⟩ (fun h => False.elim (by revert h; decide)) (fun _ => ?_)
    refine k_aload_n dX12_lookAt_233 rfl ?_
    refine k_getI dX12_lookAt_234 f_X12_242 (Nat.le_of_ble_eq_true rfl) sh_o86 (fun _ => rfl) ?_
    try simp (disch := omega) only [ug_at, ug_nc, ug_np]
    refine k_iconst dX12_lookAt_237 ?_
    try simp (disch := omega) only [ug_at, ug_nc, ug_np]
    refine k_icmp_ne 274 dX12_lookAt_238 (by decide) ⟨by omega, by omega⟩ ⟨by decide, by decide⟩ (fun h238 => ?_) (fun h238 => absurd h238 (by omega))
    refine k_aload_n dX12_lookAt_274 rfl ?_
    refine k_aload_n dX12_lookAt_275 rfl ?_
    refine k_getI dX12_lookAt_276 f_X12_242 (Nat.le_of_ble_eq_true rfl) sh_o86 (fun _ => rfl) ?_
    try simp (disch := omega) only [ug_at, ug_nc, ug_np]
    refine k_iconst dX12_lookAt_279 ?_
    try simp (disch := omega) only [ug_at, ug_nc, ug_np]
    refine k_icmp_ne 295 dX12_lookAt_280 (by decide) ⟨by omega, by omega⟩ ⟨by decide, by decide⟩ (fun h280 => ?_) (fun h280 => absurd h280 (by omega))
    refine k_aload_n dX12_lookAt_295 rfl ?_
    refine k_getI dX12_lookAt_296 f_X12_242 (Nat.le_of_ble_eq_true rfl) sh_o86 (fun _ => rfl) ?_
    try simp (disch := omega) only [ug_at, ug_nc, ug_np]
    refine k_putI dX12_lookAt_299 f_X12_242 (Nat.le_of_ble_eq_true rfl) sh_o86 (fun _ => (Nat.le_of_ble_eq_true rfl)) rfl (fun _ => rfl) ?_
    exact k_ret dX12_lookAt_302 rfl ⟨rfl, (((((hg.put ⟨by decide, by decide⟩).put ⟨by decide, by decide⟩).put ⟨by decide, by decide⟩).put ⟨by decide, by decide⟩).put ⟨by decide, by decide⟩).put ⟨by decide, by decide⟩, by simp (disch := omega) only [ug_at, ug_np]; exact h16, by simp (disch := omega) only [ug_at, ug_np]; rw [el]; rfl, by simp (disch := omega) only [ug_at, ug_np]; rw [ek], fun q => by rw [ek] at q; exact absurd q (by decide)⟩
