/-! ===== sightings: pure ===== -/
def Dok (V : Mem) : Prop := (0 ≤ V 0 10 ∧ V 0 10 ≤ 6) ∧ ∀ i, (0 ≤ V 7 i ∧ V 7 i ≤ 47) ∧ (0 ≤ V 8 i ∧ V 8 i ≤ 59) ∧ (0 ≤ V 9 i ∧ V 9 i ≤ 9)
def vRead (V : Mem) (set : Nat) : Nat → Bool
  | 0 => true
  | i + 1 => vRead V set i && (vLim V (V 8 i) set (V 7 i) == V 9 i)
abbrev vReadA (V : Mem) (set : Nat) : Bool := vRead V set (V 0 10).toNat
theorem vRead_f {V : Mem} {set i : Nat} (h : vRead V set i = false) : ∀ j, vRead V set (i + j) = false
  | 0 => h
  | j + 1 => by
    have := vRead_f h j
    show (vRead V set (i + j) && _) = false
    rw [this]
    rfl
theorem vRead_t {V : Mem} {set i : Nat} (h : vRead V set i = true) (h2 : vLim V (V 8 i) set (V 7 i) = V 9 i) : vRead V set (i + 1) = true := by
  show (vRead V set i && _) = true
  rw [h, h2]
  simp
theorem vRead_n {V : Mem} {set i n : Nat} (h2 : ¬ vLim V (V 8 i) set (V 7 i) = V 9 i) (hi : i < n) : vRead V set n = false := by
  have h3 : vRead V set (i + 1) = false := by
    show (vRead V set i && _) = false
    simp [h2]
  have := vRead_f h3 (n - (i + 1))
  rw [show i + 1 + (n - (i + 1)) = n by omega] at this
  exact this
theorem vRead_c {V V' : Mem} (h : Veq V V') (set : Nat) : ∀ i, vRead V set i = vRead V' set i
  | 0 => rfl
  | i + 1 => by
    show (vRead V set i && _) = (vRead V' set i && _)
    rw [vRead_c h set i, h.lim, h 8 i (by omega), h 7 i (by omega), h 9 i (by omega)]
theorem vReadA_c {V V' : Mem} (h : Veq V V') (set : Nat) : vReadA V set = vReadA V' set := by
  unfold vReadA
  rw [h 0 10 (by omega), vRead_c h]
def vFit (V : Mem) : Nat → Nat
  | 0 => 0
  | s + 1 => if vReadA V s = true then vFit V s ||| 2 ^ s else vFit V s
theorem vFit_lt {V : Mem} : ∀ s, vFit V s < 2 ^ s
  | 0 => by show 0 < 1; decide
  | s + 1 => by
    have h := vFit_lt (V := V) s
    have h2 : 2 ^ s < 2 ^ (s + 1) := Nat.pow_lt_pow_right (by decide) (by omega)
    unfold vFit
    split
    · exact Nat.or_lt_two_pow (Nat.lt_trans h h2) h2
    · omega
abbrev vFitA (V : Mem) : Nat := vFit V (vAll V + 1)
theorem vFitA_lt {V : Mem} (hV : Vok V) : vFitA V < 2 ^ 64 := by
  have h := vFit_lt (V := V) (vAll V + 1)
  have h1 := vAll_lt hV
  have h2 : 2 ^ (vAll V + 1) ≤ 2 ^ 64 := Nat.pow_le_pow_right (by decide) (by omega)
  exact Nat.lt_of_lt_of_le h h2
theorem vFit64 {V : Mem} {s : Nat} (h : s ≤ 64) : vFit V s < 2 ^ 64 := by
  have h1 := vFit_lt (V := V) s
  have h2 : 2 ^ s ≤ 2 ^ 64 := Nat.pow_le_pow_right (by decide) h
  omega
theorem pow64 {s : Nat} (h : s < 64) : 2 ^ s < 2 ^ 64 := Nat.pow_lt_pow_right (by decide) h
def vIn (V : Mem) (F : Nat) : Nat → Nat
  | 0 => vAll V
  | s + 1 => if F / 2 ^ s % 2 = 1 then vIn V F s &&& s else vIn V F s
theorem vIn_lt {V : Mem} (hV : Vok V) {F : Nat} : ∀ s, vIn V F s < 64
  | 0 => vAll_lt hV
  | s + 1 => by
    have h := vIn_lt hV (F := F) s
    unfold vIn
    split
    · exact Nat.lt_of_le_of_lt Nat.and_le_left h
    · exact h
def vInA (V : Mem) (F : Nat) : Int := if F = 0 then -1 else vIn V F (vAll V + 1)
/-- how many of the sets below s have the limit v -/
def q_al (f : Nat → Int) (F : Nat) (v : Int) : Nat → Int
  | 0 => 0
  | s + 1 => if F / 2 ^ s % 2 = 1 ∧ f s = v then q_al f F v s + 1 else q_al f F v s
def q_mo (f : Nat → Int) (F : Nat) : Nat → Int
  | 0 => 0
  | s + 1 => if F / 2 ^ s % 2 = 1 then max (q_mo f F s) (q_al f F (f s) (s + 1)) else q_mo f F s
theorem q_al_b {f : Nat → Int} {F : Nat} {v : Int} : ∀ s, 0 ≤ q_al f F v s ∧ q_al f F v s ≤ s
  | 0 => by unfold q_al; omega
  | s + 1 => by
    have := q_al_b (f := f) (F := F) (v := v) s
    unfold q_al
    split <;> omega
theorem q_mo_b {f : Nat → Int} {F : Nat} : ∀ s, 0 ≤ q_mo f F s ∧ q_mo f F s ≤ s
  | 0 => by unfold q_mo; omega
  | s + 1 => by
    have := q_mo_b (f := f) (F := F) s
    have := q_al_b (f := f) (F := F) (v := f s) (s + 1)
    unfold q_mo
    split <;> omega
abbrev vMo (V : Mem) (t : Int) (F : Nat) (x : Int) : Nat → Int := q_mo (fun s => vLim V t s x) F
def vBC (V : Mem) (t : Int) (F : Nat) : Nat → Int × Int
  | 0 => (-1, ((q_p64 F 64 : Nat) : Int) + 1)
  | x + 1 => if vMo V t F (x : Int) (vAll V + 1) < (vBC V t F x).2 then ((x : Int), vMo V t F (x : Int) (vAll V + 1)) else vBC V t F x
theorem q_p64_b (F : Nat) : ∀ i, q_p64 F i ≤ i
  | 0 => Nat.le_refl _
  | i + 1 => by
    have := q_p64_b F i
    unfold q_p64
    omega
theorem vBC_b {V : Mem} (hV : Vok V) {t : Int} {F : Nat} : ∀ x, 0 ≤ (vBC V t F x).2 ∧ (vBC V t F x).2 ≤ 65
  | 0 => by
    have := q_p64_b F 64
    unfold vBC
    show 0 ≤ _ + _ ∧ _ + _ ≤ _
    omega
  | x + 1 => by
    have h1 := vBC_b hV (t := t) (F := F) x
    have h2 := q_mo_b (f := fun s => vLim V t s (x : Int)) (F := F) (vAll V + 1)
    have h3 := vAll_lt hV
    unfold vBC
    split
    · show 0 ≤ vMo V t F (x : Int) (vAll V + 1) ∧ vMo V t F (x : Int) (vAll V + 1) ≤ 65
      unfold vMo
      omega
    · exact h1
def vBCA (V : Mem) (t : Int) (F : Nat) : Int := if F = 0 then -1 else (vBC V t F 48).1
def vDolls (V : Mem) : Nat → Nat
  | 0 => 0
  | c + 1 => if vReadA (ug V 1 c 5) (vAll V) = true then vDolls V c ||| 2 ^ c else vDolls V c
theorem vDolls_lt {V : Mem} : ∀ c, c ≤ 6 → vDolls V c < 64
  | 0, _ => by show 0 < 64; decide
  | c + 1, hc => by
    have h := vDolls_lt (V := V) c (by omega)
    have h2 : 2 ^ c < 2 ^ 6 := Nat.pow_lt_pow_right (by decide) (by omega)
    unfold vDolls
    split
    · exact Nat.or_lt_two_pow (n := 6) h h2
    · exact h
theorem lI_ex (x : Int64) : ∃ z : Int, lI z = x := ⟨x.toInt, Int64.ofInt_toInt x⟩
section SigRows
variable {M : MI} {pc : Nat} {L : List (Option Value)} {st : List Value} {G : Mem} {Post : Option Value → Mem → Prop}
theorem k_lcmp0 {x : Int} (F : Nat) (hd : decode M.2.1 pc = .ok (.lcmp, 1)) (hx : x = F) (hF : F < 2 ^ 64)
    (kk : ∀ c : Int, (c = 0 ↔ F = 0) → (-1 ≤ c ∧ c ≤ 1) → RP M (pc + 1) L (.int (iI c) :: st) G Post) : RP M pc L (.long (lI 0) :: .long (lI x) :: st) G Post := by
  have hz : lI (F : Int) = lI 0 ↔ F = 0 := by
    constructor
    · intro h
      have h2 : (lN F).toBitVec.toNat = (lN 0).toBitVec.toNat := by rw [← lI_nat, h]; rfl
      rw [wb_tn hF, wb_tn (by decide)] at h2
      exact h2
    · rintro rfl
      rfl
  obtain ⟨c, h1, h2, h3⟩ : ∃ c : Int, lg_cmp (lI (F : Int)) (lI 0) = iI c ∧ (c = 0 ↔ F = 0) ∧ (-1 ≤ c ∧ c ≤ 1) := by
    unfold lg_cmp
    by_cases e : F = 0
    · subst e
      exact ⟨0, by decide, by simp, by decide⟩
    · have e1 : ¬ lI (F : Int) = lI 0 := fun h => e (hz.mp h)
      by_cases e2 : lI (F : Int) < lI 0
      · exact ⟨-1, by simp [e1, e2, Int64.lt_asymm e2]; rfl, by simp [e], by decide⟩
      · have e3 : lI 0 < lI (F : Int) := by
          have h1 : ¬ (lI (F : Int)).toInt = (lI 0).toInt := fun h => e1 (Int64.toInt_inj.mp h)
          have h2 : ¬ (lI (F : Int)).toInt < (lI 0).toInt := fun h => e2 (Int64.lt_iff_toInt_lt.mpr h)
          rw [Int64.lt_iff_toInt_lt]
          omega
        exact ⟨1, by simp [e1, e2, e3]; rfl, by simp [e], by decide⟩
  subst hx
  exact (kk c h2 h3).step (fun o g h => r_lcmp hd (by rw [h1]; exact h))
theorem k_lshr {x y : Int} (F k : Nat) (hd : decode M.2.1 pc = .ok (.lshr, 1)) (hx : x = F) (hy : y = k) (hk : k < 64)
    (kk : ∀ z : Int, (lI z &&& lI 1 = lI ((F / 2 ^ k % 2 : Nat) : Int)) → RP M (pc + 1) L (.long (lI z) :: st) G Post) : RP M pc L (.int (iI y) :: .long (lI x) :: st) G Post := by
  subst hx hy
  obtain ⟨z, hz⟩ := lI_ex (lI (F : Int) >>> ((iI (k : Int)).toInt64 &&& 63))
  have h1 : lI z &&& lI 1 = lI ((F / 2 ^ k % 2 : Nat) : Int) := by
    rw [hz, lI_nat, lI_nat, iI_nat]
    exact wb_sbit hk
  exact (kk z h1).step (fun o g h => r_lshr hd (by rw [← hz]; exact h))
theorem k_land1 {z : Int} (b : Nat) (hd : decode M.2.1 pc = .ok (.land, 1)) (hz : lI z &&& lI 1 = lI (b : Int))
    (kk : RP M (pc + 1) L (.long (lI (b : Int)) :: st) G Post) : RP M pc L (.long (lI 1) :: .long (lI z) :: st) G Post := kk.step (fun o g h => r_land hd (by rw [hz]; exact h))
end SigRows
/-- the rows at 76 and the table at 85 alone have changed -/
def FI (G G1 : Mem) : Prop := (∀ a b, a ≠ 83 → a ≠ 84 → a ≠ 85 → G1 a b = G a b) ∧ q_ok (G1 83) (G1 84)
theorem FI.of {G G1 : Mem} (h : LI 76 G G1) : FI G G1 := ⟨fun a b h1 h2 _ => h.1 a b h1 h2, h.2⟩
theorem FI.veq {r : Nat} {G G1 : Mem} (h : FI G G1) (hrl : r + 12 < 75) : Veq (rv G r) (rv G1 r) := fun a b ha => (h.1 (r + a) b (by omega) (by omega) (by omega)).symm
/-- the minute t is seen; else only what FI lets has changed -/
def KI (G : Mem) (r : Nat) (t : Int) (G1 : Mem) : Prop := FI G G1 ∧ ∀ j, j < (G r 2).toNat → G1 83 j = vP (rv G r) t j ∧ G1 84 j = vH (rv G r) t j
theorem KI.of {G G1 : Mem} {r : Nat} {t : Int} (h : SeeI G r 76 t (G r 2).toNat G1) : KI G r t G1 := ⟨FI.of h.li, h.2.1⟩
theorem KI.up {G G1 : Mem} {r : Nat} {t : Int} (h : KI G r t G1) (i : Nat) (v : Int) : KI G r t (ug G1 85 i v) := by
  refine ⟨⟨fun a b h1 h2 h3 => ?_, ?_⟩, fun j hj => ?_⟩
  · rw [ug_nc h3]
    exact h.1.1 a b h1 h2 h3
  · rw [show ug G1 85 i v 83 = G1 83 from funext (fun y => ug_nc (by decide)), show ug G1 85 i v 84 = G1 84 from funext (fun y => ug_nc (by decide))]
    exact h.1.2
  · rw [ug_nc (by decide), ug_nc (by decide)]
    exact h.2 j hj
theorem m_limK {G G1 : Mem} {r : Nat} (hr : Rd r) (hrl : r + 12 < 75) (hV : Vok (rv G r)) {t : Int} (hK : KI G r t G1) {set : Nat} (hset : set < 64) {x : Int} (hx : 0 ≤ x ∧ x ≤ 47) : MP M_X4_limitIn [.ref 76, .ref r, .int (iI (set : Int)), .int (iI x)] G1 (vx (vLim (rv G r) t set x) G1) := by
  have hv := hK.1.veq hrl (r := r)
  have e2 : G1 r 2 = G r 2 := hK.1.1 r 2 (by omega) (by omega) (by omega)
  rw [hv.lim]
  refine m_limL lm76 hr (by omega) (hv.ok hV) ⟨fun _ _ _ _ => rfl, fun j hj => ?_, hK.1.2⟩ hset hx
  rw [e2] at hj
  rw [← hv.P, ← hv.H]
  exact hK.2 j hj
theorem m_allK {G G1 : Mem} {r : Nat} (hr : Rd r) (hrl : r + 12 < 75) (hV : Vok (rv G r)) (hK : FI G G1) : MP M_X6_everyChild [.ref r] G1 (vx (vAll (rv G r) : Int) G1) := by
  have e2 : G1 r 2 = G r 2 := hK.1 r 2 (by omega) (by omega) (by omega)
  have h2 : 0 ≤ G r 2 ∧ G r 2 ≤ 6 := hV.2.2.1
  have h := m_everyChild (G := G1) hr (by rw [e2]; exact h2)
  rw [e2] at h
  exact h
theorem lp_isAsRead {G : Mem} {r : Nat} (hr : Rd r) (hrl : r + 12 < 75) (hV : Vok (rv G r)) (hD : Dok (rv G r)) {set : Nat} (hset : set < 64) : ∀ i : Nat, i ≤ (G r 10).toNat → ∀ G1 : Mem, LI 76 G G1 → vRead (rv G r) set i = true → RP M_X8_isAsRead 2 [some (.ref 75), some (.ref r), some (.int (iI (set : Int))), some (.int (iI (i : Int)))] [] G1 (vi fun v g => bI (vReadA (rv G r) set = true) = v ∧ LI 76 G g) := by
  have hn : 0 ≤ G r 10 ∧ G r 10 ≤ 6 := hD.1
  refine cnt (fun G1 hI hR => ?_) (fun i hi ih G1 hI hR => ?_)
  · skip
    have e2 : G1 r 10 = G r 10 := hI.1 r 10 (by omega) (by omega)
    refine k_iload_n dX8_isAsRead_2 rfl ?_
    refine k_aload_n dX8_isAsRead_3 rfl ?_
    refine k_getI dX8_isAsRead_4 f_X8_22 (Rd.l0 hr) (Rd.o hr) (fun _ => rfl) ?_
    refine k_icmp_ge 56 dX8_isAsRead_7 (by decide) ⟨by omega, by omega⟩ ⟨by omega, by omega⟩ (fun h7 => ?_) (fun h7 => absurd h7 (by omega))
    refine k_iconst dX8_isAsRead_56 ?_
    exact k_zret dX8_isAsRead_57 rfl (Or.inr rfl) ⟨_, rfl, by unfold bI; exact if_pos hR, hI⟩
  · skip
    have e2 : G1 r 10 = G r 10 := hI.1 r 10 (by omega) (by omega)
    have e7 : G1 (r + 7) i = G (r + 7) i := hI.1 (r + 7) i (by omega) (by omega)
    have e8 : G1 (r + 8) i = G (r + 8) i := hI.1 (r + 8) i (by omega) (by omega)
    have e9 : G1 (r + 9) i = G (r + 9) i := hI.1 (r + 9) i (by omega) (by omega)
    have hd : (0 ≤ G (r + 7) i ∧ G (r + 7) i ≤ 47) ∧ (0 ≤ G (r + 8) i ∧ G (r + 8) i ≤ 59) ∧ (0 ≤ G (r + 9) i ∧ G (r + 9) i ≤ 9) := hD.2 i
    have bl := vLim_b hV (t := G (r + 8) i) (by omega) set (G (r + 7) i)
    refine k_iload_n dX8_isAsRead_2 rfl ?_
    refine k_aload_n dX8_isAsRead_3 rfl ?_
    refine k_getI dX8_isAsRead_4 f_X8_22 (Rd.l0 hr) (Rd.o hr) (fun _ => rfl) ?_
    refine k_icmp_ge 56 dX8_isAsRead_7 (by decide) ⟨by omega, by omega⟩ ⟨by omega, by omega⟩ (fun h7 => absurd h7 (by omega)) (fun h7 => ?_)
    refine k_aload_n dX8_isAsRead_10 rfl ?_
    refine k_getR dX8_isAsRead_11 f_X8_12 (Nat.le_of_ble_eq_true rfl) sh_o75 (fun _ => rfl) ?_
    refine k_aload_n dX8_isAsRead_14 rfl ?_
    refine k_aload_n dX8_isAsRead_15 rfl ?_
    refine k_getR dX8_isAsRead_16 f_X8_28 (Rd.l0 hr) (Rd.o hr) (fun _ => rfl) ?_
    refine k_iload_n dX8_isAsRead_19 rfl ?_
    refine k_iald i dX8_isAsRead_20 (Rd.l8 hr) (Rd.a8 hr) (by decide) (by omega) (by omega) ?_
    rw [e8]
    refine k_callVv [.ref _, .int (iI _)] dX8_isAsRead_21 s_X8_isAsRead_31 rfl (m_seeL lm76 hr (by omega) hV hI (by omega)) rfl (Nat.le_of_ble_eq_true rfl) (Lm.o lm76) ⟨_, rfl, rfl⟩ (Nat.le_of_ble_eq_true rfl) ?_
    rintro G2 hS
    refine k_aload_n dX8_isAsRead_24 rfl ?_
    refine k_getR dX8_isAsRead_25 f_X8_12 (Nat.le_of_ble_eq_true rfl) sh_o75 (fun _ => rfl) ?_
    refine k_aload_n dX8_isAsRead_28 rfl ?_
    refine k_iload_n dX8_isAsRead_29 rfl ?_
    refine k_aload_n dX8_isAsRead_30 rfl ?_
    refine k_getR dX8_isAsRead_31 f_X8_35 (Rd.l0 hr) (Rd.o hr) (fun _ => rfl) ?_
    refine k_iload_n dX8_isAsRead_34 rfl ?_
    refine k_iald i dX8_isAsRead_35 (Rd.l7 hr) (Rd.a7 hr) (by decide) (by omega) (by omega) ?_
    rw [show G2 (r + 7) i = G (r + 7) i from hS.1 (r + 7) i (by omega) (by omega)]
    refine k_callVi [.ref _, .int (iI _), .int (iI _)] dX8_isAsRead_36 s_X8_isAsRead_38 rfl (m_limL lm76 hr (by omega) hV hS hset (by omega)) rfl (Nat.le_of_ble_eq_true rfl) (Lm.o lm76) ⟨_, rfl, rfl⟩ (Nat.le_of_ble_eq_true rfl) ?_
    rintro _ _ ⟨rfl, rfl⟩
    refine k_aload_n dX8_isAsRead_39 rfl ?_
    refine k_getR dX8_isAsRead_40 f_X8_42 (Rd.l0 hr) (Rd.o hr) (fun _ => rfl) ?_
    refine k_iload_n dX8_isAsRead_43 rfl ?_
    refine k_iald i dX8_isAsRead_44 (Rd.l9 hr) (Rd.a9 hr) (by decide) (by omega) (by omega) ?_
    rw [show G2 (r + 9) i = G (r + 9) i from hS.1 (r + 9) i (by omega) (by omega)]
    refine k_icmp_eq 50 dX8_isAsRead_45 (by decide) ⟨by omega, by omega⟩ ⟨by omega, by omega⟩ (fun h45 => ?_) (fun h45 => ?_)
    · skip
      refine k_iinc (L' := [_, _, _, _]) dX8_isAsRead_50 rfl (Nat.le_of_ble_eq_true rfl) rfl ?_
      refine k_goto 2 dX8_isAsRead_53 (by decide) ?_
      exact ih _ hS.li (vRead_t hR h45)
    · skip
      refine k_iconst dX8_isAsRead_48 ?_
      exact k_zret dX8_isAsRead_49 rfl (Or.inl rfl) ⟨_, rfl, by unfold bI; exact if_neg (by rw [show vReadA (rv G r) set = false from vRead_n h45 hi]; decide), hS.li⟩
theorem m_isAsRead {G G1 : Mem} {r : Nat} (hr : Rd r) (hrl : r + 12 < 75) (hV : Vok (rv G r)) (hD : Dok (rv G r)) (hI : LI 76 G G1) {set : Nat} (hset : set < 64) : MP M_X8_isAsRead [.ref 75, .ref r, .int (iI (set : Int))] G1 (vi fun v g => bI (vReadA (rv G r) set = true) = v ∧ LI 76 G g) := by
  refine MP.of [some (.ref 75), some (.ref r), some (.int (iI (set : Int))), none] (plainFor_of_name pn_X8) (Nat.le_of_ble_eq_true rfl) rfl ?_
  refine k_iconst dX8_isAsRead_0 ?_
  refine k_istore_n (L' := [_, _, _, _]) dX8_isAsRead_1 (Nat.le_of_ble_eq_true rfl) rfl ?_
  exact lp_isAsRead hr hrl hV hD hset 0 (by omega) _ hI rfl
theorem lp_fit {G : Mem} {r : Nat} (hr : Rd r) (hrl : r + 12 < 75) (hV : Vok (rv G r)) (hD : Dok (rv G r))  : ∀ s : Nat, s ≤ vAll (rv G r) + 1 → ∀ G1 : Mem, LI 76 G G1 → RP M_X8_fittingSets 5 [some (.ref 75), some (.ref r), some (.long (lI (vFit (rv G r) s : Int))), none, some (.int (iI (s : Int)))] [] G1 (vl fun v g => ((vFitA (rv G r) : Nat) : Int) = v ∧ LI 76 G g) := by
  have ha := vAll_lt hV
  refine cnt (fun G1 hI => ?_) (fun s hs ih G1 hI => ?_)
  · skip
    refine k_iload dX8_fittingSets_5 rfl ?_
    refine k_aload_n dX8_fittingSets_7 rfl ?_
    refine k_callVi [] dX8_fittingSets_8 s_X8_fittingSets_45 rfl (m_allL hr (by omega) hV hI) rfl (Rd.l0 hr) (Rd.o hr) ⟨_, rfl, rfl⟩ (Nat.le_of_ble_eq_true rfl) ?_
    rintro _ _ ⟨rfl, rfl⟩
    refine k_icmp_gt 37 dX8_fittingSets_11 (by decide) ⟨by omega, by omega⟩ ⟨by omega, by omega⟩ (fun h11 => ?_) (fun h11 => absurd h11 (by omega))
    refine k_lload_n dX8_fittingSets_37 rfl ?_
    exact k_lret dX8_fittingSets_38 rfl ⟨_, rfl, rfl, hI⟩
  · skip
    have e := vFit.eq_2 (rv G r) s
    refine k_iload dX8_fittingSets_5 rfl ?_
    refine k_aload_n dX8_fittingSets_7 rfl ?_
    refine k_callVi [] dX8_fittingSets_8 s_X8_fittingSets_45 rfl (m_allL hr (by omega) hV hI) rfl (Rd.l0 hr) (Rd.o hr) ⟨_, rfl, rfl⟩ (Nat.le_of_ble_eq_true rfl) ?_
    rintro _ _ ⟨rfl, rfl⟩
    refine k_icmp_gt 37 dX8_fittingSets_11 (by decide) ⟨by omega, by omega⟩ ⟨by omega, by omega⟩ (fun h11 => absurd h11 (by omega)) (fun h11 => ?_)
    refine k_aload_n dX8_fittingSets_14 rfl ?_
    refine k_aload_n dX8_fittingSets_15 rfl ?_
    refine k_iload dX8_fittingSets_16 rfl ?_
    refine k_callVi [.ref _, .int (iI _)] dX8_fittingSets_18 s_X8_fittingSets_49 rfl (m_isAsRead hr hrl hV hD hI (by omega)) rfl (Nat.le_of_ble_eq_true rfl) sh_o75 ⟨_, rfl, rfl⟩ (Nat.le_of_ble_eq_true rfl) ?_
    rintro _ G2 ⟨rfl, hI2⟩
    refine k_ifb_eq 31 dX8_fittingSets_21 (by decide) (fun h21 => ?_) (fun h21 => ?_)
    · skip
      refine k_iinc (L' := [_, _, _, _, _]) dX8_fittingSets_31 rfl (Nat.le_of_ble_eq_true rfl) rfl ?_
      refine k_goto 5 dX8_fittingSets_34 (by decide) ?_
      first | (rw [if_pos h21] at e; rw [e] at ih; exact ih _ hI2) | (rw [if_neg h21] at e; rw [e] at ih; exact ih _ hI2)
    · skip
      refine k_lload_n dX8_fittingSets_24 rfl ?_
      refine k_lconst dX8_fittingSets_25 ?_
      refine k_iload dX8_fittingSets_26 rfl ?_
      refine k_lshl1 s dX8_fittingSets_28 rfl (by omega) ?_
      refine k_lor _ _ dX8_fittingSets_29 rfl rfl (vFit64 (by omega)) (pow64 (by omega)) ?_
      refine k_lstore_n (L' := [_, _, _, _, _]) dX8_fittingSets_30 (Nat.le_of_ble_eq_true rfl) rfl ?_
      refine k_iinc (L' := [_, _, _, _, _]) dX8_fittingSets_31 rfl (Nat.le_of_ble_eq_true rfl) rfl ?_
      refine k_goto 5 dX8_fittingSets_34 (by decide) ?_
      first | (rw [if_pos h21] at e; rw [e] at ih; exact ih _ hI2) | (rw [if_neg h21] at e; rw [e] at ih; exact ih _ hI2)
theorem m_fittingSets {G G1 : Mem} {r : Nat} (hr : Rd r) (hrl : r + 12 < 75) (hV : Vok (rv G r)) (hD : Dok (rv G r)) (hI : LI 76 G G1)  : MP M_X8_fittingSets [.ref 75, .ref r] G1 (vl fun v g => ((vFitA (rv G r) : Nat) : Int) = v ∧ LI 76 G g) := by
  refine MP.of [some (.ref 75), some (.ref r), none, none, none] (plainFor_of_name pn_X8) (Nat.le_of_ble_eq_true rfl) rfl ?_
  refine k_lconst dX8_fittingSets_0 ?_
  refine k_lstore_n (L' := [_, _, _, _, _]) dX8_fittingSets_1 (Nat.le_of_ble_eq_true rfl) rfl ?_
  refine k_iconst dX8_fittingSets_2 ?_
  refine k_istore (L' := [_, _, _, _, _]) dX8_fittingSets_3 (Nat.le_of_ble_eq_true rfl) rfl ?_
  exact lp_fit hr hrl hV hD 0 (by omega) _ hI
theorem lp_inAll {G G1 : Mem} {r : Nat} (hr : Rd r) (hrl : r + 12 < 75) (hV : Vok (rv G r)) (hI : LI 76 G G1) {F : Nat} (hF : F < 2 ^ 64) : ∀ s : Nat, s ≤ vAll (rv G r) + 1 → RP M_X8_inAllSets 17 [some (.ref 75), some (.ref r), some (.long (lI (F : Int))), none, some (.int (iI (vIn (rv G r) F s : Int))), some (.int (iI (s : Int)))] [] G1 (vx ((vIn (rv G r) F (vAll (rv G r) + 1) : Nat) : Int) G1) := by
  have ha := vAll_lt hV
  refine cnt ?_ (fun s hs ih => ?_)
  · skip
    refine k_iload dX8_inAllSets_17 rfl ?_
    refine k_aload_n dX8_inAllSets_19 rfl ?_
    refine k_callVi [] dX8_inAllSets_20 s_X8_inAllSets_45 rfl (m_allL hr (by omega) hV hI) rfl (Rd.l0 hr) (Rd.o hr) ⟨_, rfl, rfl⟩ (Nat.le_of_ble_eq_true rfl) ?_
    rintro _ _ ⟨rfl, rfl⟩
    refine k_icmp_gt 50 dX8_inAllSets_23 (by decide) ⟨by omega, by omega⟩ ⟨by omega, by omega⟩ (fun h23 => ?_) (fun h23 => absurd h23 (by omega))
    refine k_iload dX8_inAllSets_50 rfl ?_
    exact k_iret dX8_inAllSets_52 rfl ⟨_, rfl, rfl, rfl⟩
  · skip
    have e := vIn.eq_2 (rv G r) F s
    refine k_iload dX8_inAllSets_17 rfl ?_
    refine k_aload_n dX8_inAllSets_19 rfl ?_
    refine k_callVi [] dX8_inAllSets_20 s_X8_inAllSets_45 rfl (m_allL hr (by omega) hV hI) rfl (Rd.l0 hr) (Rd.o hr) ⟨_, rfl, rfl⟩ (Nat.le_of_ble_eq_true rfl) ?_
    rintro _ _ ⟨rfl, rfl⟩
    refine k_icmp_gt 50 dX8_inAllSets_23 (by decide) ⟨by omega, by omega⟩ ⟨by omega, by omega⟩ (fun h23 => absurd h23 (by omega)) (fun h23 => ?_)
    refine k_lload_n dX8_inAllSets_26 rfl ?_
    refine k_iload dX8_inAllSets_27 rfl ?_
    refine k_lshr F s dX8_inAllSets_29 rfl rfl (by omega) ?_
    intro z hz
    refine k_lconst dX8_inAllSets_30 ?_
    refine k_land1 _ dX8_inAllSets_31 hz ?_
    refine k_lconst dX8_inAllSets_32 ?_
    refine k_lcmp0 _ dX8_inAllSets_33 rfl (by omega) ?_
    intro c hc hcr
    refine k_if_eq 44 dX8_inAllSets_34 (by decide) ⟨by omega, by omega⟩ (fun h34 => ?_) (fun h34 => ?_)
    · skip
      refine k_iinc (L' := [_, _, _, _, _, _]) dX8_inAllSets_44 rfl (Nat.le_of_ble_eq_true rfl) rfl ?_
      refine k_goto 17 dX8_inAllSets_47 (by decide) ?_
      first | (rw [if_pos (by omega)] at e; rw [e] at ih; exact ih) | (rw [if_neg (by omega)] at e; rw [e] at ih; exact ih)
    · skip
      refine k_iload dX8_inAllSets_37 rfl ?_
      refine k_iload dX8_inAllSets_39 rfl ?_
      refine k_iand _ _ dX8_inAllSets_41 rfl rfl ?_
      refine k_istore (L' := [_, _, _, _, _, _]) dX8_inAllSets_42 (Nat.le_of_ble_eq_true rfl) rfl ?_
      refine k_iinc (L' := [_, _, _, _, _, _]) dX8_inAllSets_44 rfl (Nat.le_of_ble_eq_true rfl) rfl ?_
      refine k_goto 17 dX8_inAllSets_47 (by decide) ?_
      first | (rw [if_pos (by omega)] at e; rw [e] at ih; exact ih) | (rw [if_neg (by omega)] at e; rw [e] at ih; exact ih)
theorem m_inAllSets {G G1 : Mem} {r : Nat} (hr : Rd r) (hrl : r + 12 < 75) (hV : Vok (rv G r)) (hI : LI 76 G G1) {F : Nat} (hF : F < 2 ^ 64) : MP M_X8_inAllSets [.ref 75, .ref r, .long (lI (F : Int))] G1 (vx (vInA (rv G r) F) G1) := by
  refine MP.of [some (.ref 75), some (.ref r), some (.long (lI (F : Int))), none, none, none] (plainFor_of_name pn_X8) (Nat.le_of_ble_eq_true rfl) rfl ?_
  refine k_lload_n dX8_inAllSets_0 rfl ?_
  refine k_lconst dX8_inAllSets_1 ?_
  refine k_lcmp0 F dX8_inAllSets_2 rfl hF ?_
  intro c hc hcr
  refine k_if_ne 8 dX8_inAllSets_3 (by decide) ⟨by omega, by omega⟩ (fun h3 => ?_) (fun h3 => ?_)
  · skip
    refine k_aload_n dX8_inAllSets_8 rfl ?_
    refine k_callVi [] dX8_inAllSets_9 s_X8_inAllSets_45 rfl (m_allL hr (by omega) hV hI) rfl (Rd.l0 hr) (Rd.o hr) ⟨_, rfl, rfl⟩ (Nat.le_of_ble_eq_true rfl) ?_
    rintro _ _ ⟨rfl, rfl⟩
    refine k_istore (L' := [_, _, _, _, _, _]) dX8_inAllSets_12 (Nat.le_of_ble_eq_true rfl) rfl ?_
    refine k_iconst dX8_inAllSets_14 ?_
    refine k_istore (L' := [_, _, _, _, _, _]) dX8_inAllSets_15 (Nat.le_of_ble_eq_true rfl) rfl ?_
    have e : vInA (rv G r) F = ((vIn (rv G r) F (vAll (rv G r) + 1) : Nat) : Int) := if_neg (by omega)
    rw [e]
    exact lp_inAll hr hrl hV hI hF 0 (by omega)
  · skip
    refine k_iconst dX8_inAllSets_6 ?_
    exact k_iret dX8_inAllSets_7 rfl ⟨_, rfl, by unfold vInA; exact if_pos (by omega), rfl⟩
/-- the table at 85 counts the sets below s -/
def TI (f : Nat → Int) (F s : Nat) (G1 : Mem) : Prop := ∀ v : Nat, v ≤ 9 → G1 85 v = q_al f F (v : Int) s
theorem TI.skip {f : Nat → Int} {F s : Nat} {G1 : Mem} (h : TI f F s G1) (hb : ¬ F / 2 ^ s % 2 = 1) : TI f F (s + 1) G1 := fun v hv => by
  rw [h v hv]
  show _ = if F / 2 ^ s % 2 = 1 ∧ f s = v then _ else _
  rw [if_neg (fun q => hb q.1)]
theorem TI.up {f : Nat → Int} {F s : Nat} {G1 : Mem} (h : TI f F s G1) (hb : F / 2 ^ s % 2 = 1) {w : Nat} (hw : f s = (w : Int)) (hw9 : w ≤ 9) : TI f F (s + 1) (ug G1 85 w (G1 85 w + 1)) := fun v hv => by
  show _ = if F / 2 ^ s % 2 = 1 ∧ f s = v then q_al f F v s + 1 else q_al f F v s
  by_cases e : v = w
  · subst e
    rw [ug_at, if_pos ⟨hb, hw⟩, h v hv]
  · rw [ug_np e, if_neg (fun q => e (by have := q.2; omega)), h v hv]
theorem lp_zero {G : Mem} {r : Nat} (hr : Rd r) (hrl : r + 12 < 75) (hV : Vok (rv G r)) {t : Int} (ht : 0 ≤ t ∧ t ≤ 59) {F : Nat} {x : Int} {j6 j7 : Option Value} {Post : Option Value → Mem → Prop} (hk : ∀ G1 : Mem, KI G r t G1 → (∀ v : Nat, v ≤ 9 → G1 85 v = 0) → RP M_X8_mostAlike 24 [some (.ref 75), some (.ref r), some (.long (lI (F : Int))), none, some (.int (iI x)), some (.int (iI 10)), j6, j7] [] G1 Post) : ∀ i : Nat, i ≤ 10 → ∀ G1 : Mem, KI G r t G1 → (∀ v : Nat, v < i → G1 85 v = 0) → RP M_X8_mostAlike 3 [some (.ref 75), some (.ref r), some (.long (lI (F : Int))), none, some (.int (iI x)), some (.int (iI (i : Int))), j6, j7] [] G1 Post := by
  refine cnt (fun G1 hK hz => ?_) (fun i hi ih G1 hK hz => ?_)
  · skip
    refine k_iload dX8_mostAlike_3 rfl ?_
    refine k_bipush dX8_mostAlike_5 (by decide) ?_
    refine k_icmp_gt 24 dX8_mostAlike_7 (by decide) ⟨by omega, by omega⟩ ⟨by decide, by decide⟩ (fun h7 => ?_) (fun h7 => absurd h7 (by omega))
    exact hk _ hK (fun v hv => hz v (by omega))
  · skip
    refine k_iload dX8_mostAlike_3 rfl ?_
    refine k_bipush dX8_mostAlike_5 (by decide) ?_
    refine k_icmp_gt 24 dX8_mostAlike_7 (by decide) ⟨by omega, by omega⟩ ⟨by decide, by decide⟩ (fun h7 => absurd h7 (by omega)) (fun h7 => ?_)
    refine k_aload_n dX8_mostAlike_10 rfl ?_
    refine k_getR dX8_mostAlike_11 f_X8_18 (Nat.le_of_ble_eq_true rfl) sh_o75 (fun _ => rfl) ?_
    refine k_iload dX8_mostAlike_14 rfl ?_
    refine k_iconst dX8_mostAlike_16 ?_
    refine k_iast i dX8_mostAlike_17 (Nat.le_of_ble_eq_true rfl) sh_a85 (by decide) (by omega) (by omega) ?_
    refine k_iinc (L' := [_, _, _, _, _, _, _, _]) dX8_mostAlike_18 rfl (Nat.le_of_ble_eq_true rfl) rfl ?_
    refine k_goto 3 dX8_mostAlike_21 (by decide) ?_
    refine ih _ (hK.up i 0) (fun v hv => ?_)
    by_cases e : v = i
    · subst e
      exact ug_at
    · rw [ug_np e]
      exact hz v (by omega)
theorem lp_most {G : Mem} {r : Nat} (hr : Rd r) (hrl : r + 12 < 75) (hV : Vok (rv G r)) {t : Int} (ht : 0 ≤ t ∧ t ≤ 59) {F : Nat} (hF : F < 2 ^ 64) {x : Int} (hx : 0 ≤ x ∧ x ≤ 47) : ∀ s : Nat, s ≤ vAll (rv G r) + 1 → ∀ (G1 : Mem) (j7 : Option Value), KI G r t G1 → TI (fun s => vLim (rv G r) t s x) F s G1 → RP M_X8_mostAlike 30 [some (.ref 75), some (.ref r), some (.long (lI (F : Int))), none, some (.int (iI x)), some (.int (iI (vMo (rv G r) t F x s))), some (.int (iI (s : Int))), j7] [] G1 (vi fun v g => vMo (rv G r) t F x (vAll (rv G r) + 1) = v ∧ KI G r t g) := by
  have ha := vAll_lt hV
  refine cnt (fun G1 j7 hK hT => ?_) (fun s hs ih G1 j7 hK hT => ?_)
  · skip
    refine k_iload dX8_mostAlike_30 rfl ?_
    refine k_aload_n dX8_mostAlike_32 rfl ?_
    refine k_callVi [] dX8_mostAlike_33 s_X8_mostAlike_45 rfl (m_allK hr hrl hV hK.1) rfl (Rd.l0 hr) (Rd.o hr) ⟨_, rfl, rfl⟩ (Nat.le_of_ble_eq_true rfl) ?_
    rintro _ _ ⟨rfl, rfl⟩
    refine k_icmp_gt 95 dX8_mostAlike_36 (by decide) ⟨by omega, by omega⟩ ⟨by omega, by omega⟩ (fun h36 => ?_) (fun h36 => absurd h36 (by omega))
    refine k_iload dX8_mostAlike_95 rfl ?_
    exact k_iret dX8_mostAlike_97 rfl ⟨_, rfl, rfl, hK⟩
  · skip
    have e := q_mo.eq_2 (fun s => vLim (rv G r) t s x) F s
    have bl := vLim_b hV (t := t) (by omega) s x
    have bm : 0 ≤ vMo (rv G r) t F x s ∧ vMo (rv G r) t F x s ≤ s := q_mo_b s
    obtain ⟨w, hw⟩ : ∃ w : Nat, vLim (rv G r) t s x = (w : Int) := ⟨(vLim (rv G r) t s x).toNat, by omega⟩
    have ba := q_al_b (f := (fun s => vLim (rv G r) t s x)) (F := F) (v := (w : Int)) s
    have ba2 := q_al_b (f := (fun s => vLim (rv G r) t s x)) (F := F) (v := (w : Int)) (s + 1)
    have tw := hT w (by omega)
    refine k_iload dX8_mostAlike_30 rfl ?_
    refine k_aload_n dX8_mostAlike_32 rfl ?_
    refine k_callVi [] dX8_mostAlike_33 s_X8_mostAlike_45 rfl (m_allK hr hrl hV hK.1) rfl (Rd.l0 hr) (Rd.o hr) ⟨_, rfl, rfl⟩ (Nat.le_of_ble_eq_true rfl) ?_
    rintro _ _ ⟨rfl, rfl⟩
    refine k_icmp_gt 95 dX8_mostAlike_36 (by decide) ⟨by omega, by omega⟩ ⟨by omega, by omega⟩ (fun h36 => absurd h36 (by omega)) (fun h36 => ?_)
    refine k_lload_n dX8_mostAlike_39 rfl ?_
    refine k_iload dX8_mostAlike_40 rfl ?_
    refine k_lshr F s dX8_mostAlike_42 rfl rfl (by omega) ?_
    intro z hz
    refine k_lconst dX8_mostAlike_43 ?_
    refine k_land1 _ dX8_mostAlike_44 hz ?_
    refine k_lconst dX8_mostAlike_45 ?_
    refine k_lcmp0 _ dX8_mostAlike_46 rfl (by omega) ?_
    intro c hc hcr
    refine k_if_eq 89 dX8_mostAlike_47 (by decide) ⟨by omega, by omega⟩ (fun h47 => ?_) (fun h47 => ?_)
    · skip
      refine k_iinc (L' := [_, _, _, _, _, _, _, _]) dX8_mostAlike_89 rfl (Nat.le_of_ble_eq_true rfl) rfl ?_
      refine k_goto 30 dX8_mostAlike_92 (by decide) ?_
      first | (have hb : ¬ F / 2 ^ s % 2 = 1 := (by omega); rw [if_neg hb] at e; rw [show vMo (rv G r) t F x (s + 1) = vMo (rv G r) t F x s from e] at ih; exact ih _ _ hK (hT.skip hb)) | (rw [if_pos (by omega)] at e; rw [show vMo (rv G r) t F x (s + 1) = _ from e] at ih; simp only [hw] at ih; exact ih _ _ (hK.up w _) hT2)
    · skip
      refine k_aload_n dX8_mostAlike_50 rfl ?_
      refine k_getR dX8_mostAlike_51 f_X8_12 (Nat.le_of_ble_eq_true rfl) sh_o75 (fun _ => rfl) ?_
      refine k_aload_n dX8_mostAlike_54 rfl ?_
      refine k_iload dX8_mostAlike_55 rfl ?_
      refine k_iload dX8_mostAlike_57 rfl ?_
      refine k_callVi [.ref _, .int (iI _), .int (iI _)] dX8_mostAlike_59 s_X8_mostAlike_38 rfl (m_limK hr hrl hV hK (by omega) hx) rfl (Nat.le_of_ble_eq_true rfl) (Lm.o lm76) ⟨_, rfl, rfl⟩ (Nat.le_of_ble_eq_true rfl) ?_
      rintro _ _ ⟨rfl, rfl⟩
      rw [hw]
      refine k_istore (L' := [_, _, _, _, _, _, _, _]) dX8_mostAlike_62 (Nat.le_of_ble_eq_true rfl) rfl ?_
      refine k_aload_n dX8_mostAlike_64 rfl ?_
      refine k_getR dX8_mostAlike_65 f_X8_18 (Nat.le_of_ble_eq_true rfl) sh_o75 (fun _ => rfl) ?_
      refine k_iload dX8_mostAlike_68 rfl ?_
      refine k_dup2 dX8_mostAlike_70 rfl rfl ?_
      refine k_iald w dX8_mostAlike_71 (Nat.le_of_ble_eq_true rfl) sh_a85 (by decide) (by omega) (by omega) ?_
      refine k_iconst dX8_mostAlike_72 ?_
      refine k_iadd dX8_mostAlike_73 ?_
      refine k_iast w dX8_mostAlike_74 (Nat.le_of_ble_eq_true rfl) sh_a85 (by decide) (by omega) (by omega) ?_
      have hT2 := hT.up (by omega) hw (by omega)
      have tw2 := hT2 w (by omega)
      refine k_iload dX8_mostAlike_75 rfl ?_
      refine k_aload_n dX8_mostAlike_77 rfl ?_
      refine k_getR dX8_mostAlike_78 f_X8_18 (Nat.le_of_ble_eq_true rfl) sh_o75 (fun _ => rfl) ?_
      refine k_iload dX8_mostAlike_81 rfl ?_
      refine k_iald w dX8_mostAlike_83 (Nat.le_of_ble_eq_true rfl) sh_a85 (by decide) (by omega) (by omega) ?_
      rw [tw2]
      refine k_callSi [.int (iI _), .int (iI _)] dX8_mostAlike_84 s_X8_mostAlike_63 rfl (m_max ⟨by omega, by omega⟩ ⟨by omega, by omega⟩) rfl (Nat.le_of_ble_eq_true rfl) ?_
      rintro _ _ ⟨rfl, rfl⟩
      refine k_istore (L' := [_, _, _, _, _, _, _, _]) dX8_mostAlike_87 (Nat.le_of_ble_eq_true rfl) rfl ?_
      refine k_iinc (L' := [_, _, _, _, _, _, _, _]) dX8_mostAlike_89 rfl (Nat.le_of_ble_eq_true rfl) rfl ?_
      refine k_goto 30 dX8_mostAlike_92 (by decide) ?_
      first | (have hb : ¬ F / 2 ^ s % 2 = 1 := (by omega); rw [if_neg hb] at e; rw [show vMo (rv G r) t F x (s + 1) = vMo (rv G r) t F x s from e] at ih; exact ih _ _ hK (hT.skip hb)) | (rw [if_pos (by omega)] at e; rw [show vMo (rv G r) t F x (s + 1) = _ from e] at ih; simp only [hw] at ih; exact ih _ _ (hK.up w _) hT2)
theorem m_mostAlike {G G1 : Mem} {r : Nat} (hr : Rd r) (hrl : r + 12 < 75) (hV : Vok (rv G r)) {t : Int} (ht : 0 ≤ t ∧ t ≤ 59) (hK : KI G r t G1) {F : Nat} (hF : F < 2 ^ 64) {x : Int} (hx : 0 ≤ x ∧ x ≤ 47) : MP M_X8_mostAlike [.ref 75, .ref r, .long (lI (F : Int)), .int (iI x)] G1 (vi fun v g => vMo (rv G r) t F x (vAll (rv G r) + 1) = v ∧ KI G r t g) := by
  refine MP.of [some (.ref 75), some (.ref r), some (.long (lI (F : Int))), none, some (.int (iI x)), none, none, none] (plainFor_of_name pn_X8) (Nat.le_of_ble_eq_true rfl) rfl ?_
  refine k_iconst dX8_mostAlike_0 ?_
  refine k_istore (L' := [_, _, _, _, _, _, _, _]) dX8_mostAlike_1 (Nat.le_of_ble_eq_true rfl) rfl ?_
  refine lp_zero hr hrl hV ht (fun G2 hK2 hz => ?_) 0 (by omega) _ hK (fun v hv => absurd hv (by omega))
  refine k_iconst dX8_mostAlike_24 ?_
  refine k_istore (L' := [_, _, _, _, _, _, _, _]) dX8_mostAlike_25 (Nat.le_of_ble_eq_true rfl) rfl ?_
  refine k_iconst dX8_mostAlike_27 ?_
  refine k_istore (L' := [_, _, _, _, _, _, _, _]) dX8_mostAlike_28 (Nat.le_of_ble_eq_true rfl) rfl ?_
  exact lp_most hr hrl hV ht hF hx 0 (by omega) _ _ hK2 (fun v hv => hz v hv)
theorem lp_bestCell {G : Mem} {r : Nat} (hr : Rd r) (hrl : r + 12 < 75) (hV : Vok (rv G r)) {t : Int} (ht : 0 ≤ t ∧ t ≤ 59) {F : Nat} (hF : F < 2 ^ 64) : ∀ x : Nat, x ≤ 48 → ∀ (G1 : Mem) (j8 : Option Value), KI G r t G1 → RP M_X8_bestCell 32 [some (.ref 75), some (.ref r), some (.long (lI (F : Int))), none, some (.int (iI t)), some (.int (iI (vBC (rv G r) t F x).1)), some (.int (iI (vBC (rv G r) t F x).2)), some (.int (iI (x : Int))), j8] [] G1 (vi fun v g => (vBC (rv G r) t F 48).1 = v ∧ FI G g) := by
  have ha := vAll_lt hV
  refine cnt (fun G1 j8 hK => ?_) (fun x hx ih G1 j8 hK => ?_)
  · skip
    refine k_iload dX8_bestCell_32 rfl ?_
    refine k_bipush dX8_bestCell_34 (by decide) ?_
    refine k_icmp_ge 70 dX8_bestCell_36 (by decide) ⟨by omega, by omega⟩ ⟨by decide, by decide⟩ (fun h36 => ?_) (fun h36 => absurd h36 (by omega))
    refine k_iload dX8_bestCell_70 rfl ?_
    exact k_iret dX8_bestCell_72 rfl ⟨_, rfl, rfl, hK.1⟩
  · skip
    have e := vBC.eq_2 (rv G r) t F x
    have bb := vBC_b hV (t := t) (F := F) x
    have bm : 0 ≤ vMo (rv G r) t F (x : Int) (vAll (rv G r) + 1) ∧ vMo (rv G r) t F (x : Int) (vAll (rv G r) + 1) ≤ ((vAll (rv G r) + 1 : Nat) : Int) := q_mo_b (vAll (rv G r) + 1)
    refine k_iload dX8_bestCell_32 rfl ?_
    refine k_bipush dX8_bestCell_34 (by decide) ?_
    refine k_icmp_ge 70 dX8_bestCell_36 (by decide) ⟨by omega, by omega⟩ ⟨by decide, by decide⟩ (fun h36 => absurd h36 (by omega)) (fun h36 => ?_)
    refine k_aload_n dX8_bestCell_39 rfl ?_
    refine k_aload_n dX8_bestCell_40 rfl ?_
    refine k_lload_n dX8_bestCell_41 rfl ?_
    refine k_iload dX8_bestCell_42 rfl ?_
    refine k_callVi [.ref _, .long (lI _), .int (iI _)] dX8_bestCell_44 s_X8_bestCell_59 rfl (m_mostAlike hr hrl hV ht hK hF (by omega)) rfl (Nat.le_of_ble_eq_true rfl) sh_o75 ⟨_, rfl, rfl⟩ (Nat.le_of_ble_eq_true rfl) ?_
    rintro _ G2 ⟨rfl, hK2⟩
    refine k_istore (L' := [_, _, _, _, _, _, _, _, _]) dX8_bestCell_47 (Nat.le_of_ble_eq_true rfl) rfl ?_
    refine k_iload dX8_bestCell_49 rfl ?_
    refine k_iload dX8_bestCell_51 rfl ?_
    refine k_icmp_ge 64 dX8_bestCell_53 (by decide) ⟨by omega, by omega⟩ ⟨by omega, by omega⟩ (fun h53 => ?_) (fun h53 => ?_)
    · skip
      refine k_iinc (L' := [_, _, _, _, _, _, _, _, _]) dX8_bestCell_64 rfl (Nat.le_of_ble_eq_true rfl) rfl ?_
      refine k_goto 32 dX8_bestCell_67 (by decide) ?_
      first | (rw [if_pos (by omega)] at e; rw [e] at ih; exact ih _ _ hK2) | (rw [if_neg (by omega)] at e; rw [e] at ih; exact ih _ _ hK2)
    · skip
      refine k_iload dX8_bestCell_56 rfl ?_
      refine k_istore (L' := [_, _, _, _, _, _, _, _, _]) dX8_bestCell_58 (Nat.le_of_ble_eq_true rfl) rfl ?_
      refine k_iload dX8_bestCell_60 rfl ?_
      refine k_istore (L' := [_, _, _, _, _, _, _, _, _]) dX8_bestCell_62 (Nat.le_of_ble_eq_true rfl) rfl ?_
      refine k_iinc (L' := [_, _, _, _, _, _, _, _, _]) dX8_bestCell_64 rfl (Nat.le_of_ble_eq_true rfl) rfl ?_
      refine k_goto 32 dX8_bestCell_67 (by decide) ?_
      first | (rw [if_pos (by omega)] at e; rw [e] at ih; exact ih _ _ hK2) | (rw [if_neg (by omega)] at e; rw [e] at ih; exact ih _ _ hK2)
theorem m_bestCell {G G1 : Mem} {r : Nat} (hr : Rd r) (hrl : r + 12 < 75) (hV : Vok (rv G r)) {t : Int} (ht : 0 ≤ t ∧ t ≤ 59) (hI : LI 76 G G1) {F : Nat} (hF : F < 2 ^ 64) : MP M_X8_bestCell [.ref 75, .ref r, .long (lI (F : Int)), .int (iI t)] G1 (vi fun v g => vBCA (rv G r) t F = v ∧ FI G g) := by
  refine MP.of [some (.ref 75), some (.ref r), some (.long (lI (F : Int))), none, some (.int (iI t)), none, none, none, none] (plainFor_of_name pn_X8) (Nat.le_of_ble_eq_true rfl) rfl ?_
  refine k_lload_n dX8_bestCell_0 rfl ?_
  refine k_lconst dX8_bestCell_1 ?_
  refine k_lcmp0 F dX8_bestCell_2 rfl hF ?_
  intro c hc hcr
  refine k_if_ne 8 dX8_bestCell_3 (by decide) ⟨by omega, by omega⟩ (fun h3 => ?_) (fun h3 => ?_)
  · skip
    refine k_aload_n dX8_bestCell_8 rfl ?_
    refine k_getR dX8_bestCell_9 f_X8_12 (Nat.le_of_ble_eq_true rfl) sh_o75 (fun _ => rfl) ?_
    refine k_aload_n dX8_bestCell_12 rfl ?_
    refine k_iload dX8_bestCell_13 rfl ?_
    refine k_callVv [.ref _, .int (iI _)] dX8_bestCell_15 s_X8_bestCell_31 rfl (m_seeL lm76 hr (by omega) hV hI (by omega)) rfl (Nat.le_of_ble_eq_true rfl) (Lm.o lm76) ⟨_, rfl, rfl⟩ (Nat.le_of_ble_eq_true rfl) ?_
    rintro G2 hS
    refine k_iconst dX8_bestCell_18 ?_
    refine k_istore (L' := [_, _, _, _, _, _, _, _, _]) dX8_bestCell_19 (Nat.le_of_ble_eq_true rfl) rfl ?_
    refine k_lload_n dX8_bestCell_21 rfl ?_
    refine k_callSi [.long (lI _)] dX8_bestCell_22 s_X8_bestCell_53 rfl (m_bitCountL hF) rfl (Nat.le_of_ble_eq_true rfl) ?_
    rintro _ _ ⟨rfl, rfl⟩
    refine k_iconst dX8_bestCell_25 ?_
    refine k_iadd dX8_bestCell_26 ?_
    refine k_istore (L' := [_, _, _, _, _, _, _, _, _]) dX8_bestCell_27 (Nat.le_of_ble_eq_true rfl) rfl ?_
    refine k_iconst dX8_bestCell_29 ?_
    refine k_istore (L' := [_, _, _, _, _, _, _, _, _]) dX8_bestCell_30 (Nat.le_of_ble_eq_true rfl) rfl ?_
    have e : vBCA (rv G r) t F = (vBC (rv G r) t F 48).1 := if_neg (by omega)
    rw [e]
    exact lp_bestCell hr hrl hV ht hF 0 (by omega) _ _ (KI.of hS)
  · skip
    refine k_iconst dX8_bestCell_6 ?_
    exact k_iret dX8_bestCell_7 rfl ⟨_, rfl, by unfold vBCA; exact if_pos (by omega), FI.of hI⟩
theorem LI.put {l a b : Nat} {v : Int} {G G1 : Mem} (h : LI l G G1) (h7 : a ≠ l + 7) (h8 : a ≠ l + 8) : LI l (ug G a b v) (ug G1 a b v) := by
  refine ⟨fun x y h1 h2 => ?_, ?_⟩
  · by_cases e : x = a ∧ y = b
    · obtain ⟨rfl, rfl⟩ := e
      rw [ug_at, ug_at]
    · rw [ug_ne e, ug_ne e]
      exact h.1 x y h1 h2
  · rw [show ug G1 a b v (l + 7) = G1 (l + 7) from funext (fun y => ug_nc (Ne.symm h7)), show ug G1 a b v (l + 8) = G1 (l + 8) from funext (fun y => ug_nc (Ne.symm h8))]
    exact h.2
theorem LI.back {l a b : Nat} {v : Int} {G G1 : Mem} (h : LI l (ug G a b v) G1) (h7 : a ≠ l + 7) (h8 : a ≠ l + 8) : LI l G (ug G1 a b (G a b)) := by
  refine ⟨fun x y h1 h2 => ?_, ?_⟩
  · by_cases e : x = a ∧ y = b
    · obtain ⟨rfl, rfl⟩ := e
      rw [ug_at]
    · rw [ug_ne e, h.1 x y h1 h2, ug_ne e]
  · rw [show ug G1 a b (G a b) (l + 7) = G1 (l + 7) from funext (fun y => ug_nc (Ne.symm h7)), show ug G1 a b (G a b) (l + 8) = G1 (l + 8) from funext (fun y => ug_nc (Ne.symm h8))]
    exact h.2
theorem rv_put {G : Mem} {r k b : Nat} {v : Int} : Veq (ug (rv G r) k b v) (rv (ug G (r + k) b v) r) := by
  intro x y hx
  by_cases e : x = k ∧ y = b
  · obtain ⟨rfl, rfl⟩ := e
    rw [ug_at]
    exact ug_at.symm
  · rw [ug_ne e]
    have e2 : ¬ (r + x = r + k ∧ y = b) := fun z => e ⟨by omega, z.2⟩
    show G (r + x) y = ug G (r + k) b v (r + x) y
    rw [ug_ne e2]
theorem Vok.kind {V : Mem} (h : Vok V) {c : Nat} {v : Int} (hv : 0 ≤ v ∧ v ≤ 5) : Vok (ug V 1 c v) := by
  refine ⟨h.1, h.2.1, h.2.2.1, fun i => ?_⟩
  have := h.2.2.2 i
  by_cases e : i = c
  · subst e
    rw [show ug V 1 i v 1 i = v from ug_at]
    exact ⟨hv, this.2.1, this.2.2.1, this.2.2.2⟩
  · rw [show ug V 1 c v 1 i = V 1 i from ug_np e]
    exact this
theorem Dok.veq {V V' : Mem} (k : Dok V) (h : Veq V V') : Dok V' := by
  unfold Dok at k ⊢
  rw [← h 0 10 (by omega)]
  refine ⟨k.1, fun i => ?_⟩
  rw [← h 7 i (by omega), ← h 8 i (by omega), ← h 9 i (by omega)]
  exact k.2 i
theorem Dok.kind {V : Mem} (h : Dok V) {c : Nat} {v : Int} : Dok (ug V 1 c v) := h
theorem lp_dolls {G : Mem} {r : Nat} (hr : Rd r) (hrl : r + 12 < 75) (hV : Vok (rv G r)) (hD : Dok (rv G r))  : ∀ c : Nat, c ≤ (G r 2).toNat → ∀ (G1 : Mem) (j4 : Option Value), LI 76 G G1 → RP M_X8_possibleDolls 4 [some (.ref 75), some (.ref r), some (.int (iI (vDolls (rv G r) c : Int))), some (.int (iI (c : Int))), j4] [] G1 (vi fun v g => ((vDolls (rv G r) (G r 2).toNat : Nat) : Int) = v ∧ LI 76 G g) := by
  have hn : 0 ≤ G r 2 ∧ G r 2 ≤ 6 := hV.2.2.1
  refine cnt (fun G1 j4 hI => ?_) (fun c hc ih G1 j4 hI => ?_)
  · skip
    have e2 : G1 r 2 = G r 2 := hI.1 r 2 (by omega) (by omega)
    refine k_iload_n dX8_possibleDolls_4 rfl ?_
    refine k_aload_n dX8_possibleDolls_5 rfl ?_
    refine k_getI dX8_possibleDolls_6 f_X8_69 (Rd.l0 hr) (Rd.o hr) (fun _ => rfl) ?_
    refine k_icmp_ge 59 dX8_possibleDolls_9 (by decide) ⟨by omega, by omega⟩ ⟨by omega, by omega⟩ (fun h9 => ?_) (fun h9 => absurd h9 (by omega))
    refine k_iload_n dX8_possibleDolls_59 rfl ?_
    exact k_iret dX8_possibleDolls_60 rfl ⟨_, rfl, rfl, hI⟩
  · skip
    have e2 : G1 r 2 = G r 2 := hI.1 r 2 (by omega) (by omega)
    have e1 : G1 (r + 1) c = G (r + 1) c := hI.1 (r + 1) c (by omega) (by omega)
    have e := vDolls.eq_2 (rv G r) c
    have hq : Veq (ug (rv G r) 1 c 5) (rv (ug G (r + 1) c 5) r) := rv_put
    have hV2 := hq.ok (hV.kind (c := c) (v := 5) (by omega))
    have hD2 := (hD.kind (c := c) (v := 5)).veq hq
    have hI2 : LI 76 (ug G (r + 1) c 5) (ug G1 (r + 1) c 5) := hI.put (by omega) (by omega)
    have ea : vAll (rv (ug G (r + 1) c 5) r) = vAll (rv G r) := hq.all.symm
    have eR : vReadA (rv (ug G (r + 1) c 5) r) (vAll (rv G r)) = vReadA (ug (rv G r) 1 c 5) (vAll (rv G r)) := (vReadA_c hq _).symm
    have va := vAll_lt hV
    have vd := vDolls_lt (V := rv G r) c (by omega)
    refine k_iload_n dX8_possibleDolls_4 rfl ?_
    refine k_aload_n dX8_possibleDolls_5 rfl ?_
    refine k_getI dX8_possibleDolls_6 f_X8_69 (Rd.l0 hr) (Rd.o hr) (fun _ => rfl) ?_
    refine k_icmp_ge 59 dX8_possibleDolls_9 (by decide) ⟨by omega, by omega⟩ ⟨by omega, by omega⟩ (fun h9 => absurd h9 (by omega)) (fun h9 => ?_)
    refine k_aload_n dX8_possibleDolls_12 rfl ?_
    refine k_getR dX8_possibleDolls_13 f_X8_72 (Rd.l0 hr) (Rd.o hr) (fun _ => rfl) ?_
    refine k_iload_n dX8_possibleDolls_16 rfl ?_
    refine k_iald c dX8_possibleDolls_17 (Rd.l1 hr) (Rd.a1 hr) (by decide) (by omega) (by omega) ?_
    rw [e1]
    refine k_istore (L' := [_, _, _, _, _]) dX8_possibleDolls_18 (Nat.le_of_ble_eq_true rfl) rfl ?_
    refine k_aload_n dX8_possibleDolls_20 rfl ?_
    refine k_getR dX8_possibleDolls_21 f_X8_72 (Rd.l0 hr) (Rd.o hr) (fun _ => rfl) ?_
    refine k_iload_n dX8_possibleDolls_24 rfl ?_
    refine k_iconst dX8_possibleDolls_25 ?_
    refine k_iast c dX8_possibleDolls_26 (Rd.l1 hr) (Rd.a1 hr) (by decide) (by omega) (by omega) ?_
    refine k_aload_n dX8_possibleDolls_27 rfl ?_
    refine k_aload_n dX8_possibleDolls_28 rfl ?_
    refine k_aload_n dX8_possibleDolls_29 rfl ?_
    refine k_callVi [] dX8_possibleDolls_30 s_X8_possibleDolls_45 rfl (m_allL hr (by omega) hV2 hI2) rfl (Rd.l0 hr) (Rd.o hr) ⟨_, rfl, rfl⟩ (Nat.le_of_ble_eq_true rfl) ?_
    rintro _ _ ⟨rfl, rfl⟩
    rw [ea]
    refine k_callVi [.ref _, .int (iI _)] dX8_possibleDolls_33 s_X8_possibleDolls_49 rfl (m_isAsRead hr hrl hV2 hD2 hI2 va) rfl (Nat.le_of_ble_eq_true rfl) sh_o75 ⟨_, rfl, rfl⟩ (Nat.le_of_ble_eq_true rfl) ?_
    rintro _ G2 ⟨rfl, hI3⟩
    rw [eR]
    refine k_ifb_eq 45 dX8_possibleDolls_36 (by decide) (fun h36 => ?_) (fun h36 => ?_)
    · skip
      refine k_aload_n dX8_possibleDolls_45 rfl ?_
      refine k_getR dX8_possibleDolls_46 f_X8_72 (Rd.l0 hr) (Rd.o hr) (fun _ => rfl) ?_
      refine k_iload_n dX8_possibleDolls_49 rfl ?_
      refine k_iload dX8_possibleDolls_50 rfl ?_
      refine k_iast c dX8_possibleDolls_52 (Rd.l1 hr) (Rd.a1 hr) (by decide) (by omega) (by omega) ?_
      refine k_iinc (L' := [_, _, _, _, _]) dX8_possibleDolls_53 rfl (Nat.le_of_ble_eq_true rfl) rfl ?_
      refine k_goto 4 dX8_possibleDolls_56 (by decide) ?_
      first | (rw [if_pos h36] at e; rw [e] at ih; exact ih _ _ (hI3.back (by omega) (by omega))) | (rw [if_neg h36] at e; rw [e] at ih; exact ih _ _ (hI3.back (by omega) (by omega)))
    · skip
      refine k_iload_n dX8_possibleDolls_39 rfl ?_
      refine k_iconst dX8_possibleDolls_40 ?_
      refine k_iload_n dX8_possibleDolls_41 rfl ?_
      refine k_ishl c dX8_possibleDolls_42 rfl (by omega) ?_
      refine k_ior _ _ dX8_possibleDolls_43 rfl rfl ?_
      refine k_istore_n (L' := [_, _, _, _, _]) dX8_possibleDolls_44 (Nat.le_of_ble_eq_true rfl) rfl ?_
      refine k_aload_n dX8_possibleDolls_45 rfl ?_
      refine k_getR dX8_possibleDolls_46 f_X8_72 (Rd.l0 hr) (Rd.o hr) (fun _ => rfl) ?_
      refine k_iload_n dX8_possibleDolls_49 rfl ?_
      refine k_iload dX8_possibleDolls_50 rfl ?_
      refine k_iast c dX8_possibleDolls_52 (Rd.l1 hr) (Rd.a1 hr) (by decide) (by omega) (by omega) ?_
      refine k_iinc (L' := [_, _, _, _, _]) dX8_possibleDolls_53 rfl (Nat.le_of_ble_eq_true rfl) rfl ?_
      refine k_goto 4 dX8_possibleDolls_56 (by decide) ?_
      first | (rw [if_pos h36] at e; rw [e] at ih; exact ih _ _ (hI3.back (by omega) (by omega))) | (rw [if_neg h36] at e; rw [e] at ih; exact ih _ _ (hI3.back (by omega) (by omega)))
theorem m_possibleDolls {G G1 : Mem} {r : Nat} (hr : Rd r) (hrl : r + 12 < 75) (hV : Vok (rv G r)) (hD : Dok (rv G r)) (hI : LI 76 G G1)  : MP M_X8_possibleDolls [.ref 75, .ref r] G1 (vi fun v g => ((vDolls (rv G r) (G r 2).toNat : Nat) : Int) = v ∧ LI 76 G g) := by
  refine MP.of [some (.ref 75), some (.ref r), none, none, none] (plainFor_of_name pn_X8) (Nat.le_of_ble_eq_true rfl) rfl ?_
  refine k_iconst dX8_possibleDolls_0 ?_
  refine k_istore_n (L' := [_, _, _, _, _]) dX8_possibleDolls_1 (Nat.le_of_ble_eq_true rfl) rfl ?_
  refine k_iconst dX8_possibleDolls_2 ?_
  refine k_istore_n (L' := [_, _, _, _, _]) dX8_possibleDolls_3 (Nat.le_of_ble_eq_true rfl) rfl ?_
  exact lp_dolls hr hrl hV hD 0 (by omega) _ _ hI
