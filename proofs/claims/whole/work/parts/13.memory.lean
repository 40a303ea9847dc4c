/-! ===== NUMBERS: an Int32, an Int64 by a whole number ===== -/
def iI (z : Int) : Int32 := Int32.ofInt z
def lI (z : Int) : Int64 := Int64.ofInt z
abbrev R32 (a : Int) : Prop := -2147483648 ≤ a ∧ a < 2147483648
abbrev R64 (a : Int) : Prop := -9223372036854775808 ≤ a ∧ a < 9223372036854775808
def bI (p : Prop) [Decidable p] : Int := if p then 1 else 0
theorem iI_add (a b : Int) : iI a + iI b = iI (a + b) := (Int32.ofInt_add a b).symm
theorem iI_sub (a b : Int) : iI a - iI b = iI (a - b) := (Int32.ofInt_sub a b).symm
theorem iI_mul (a b : Int) : iI a * iI b = iI (a * b) := (Int32.ofInt_mul a b).symm
theorem iI_neg (a : Int) : -iI a = iI (-a) := (Int32.ofInt_neg a).symm
theorem iI_toInt {a : Int} (h : R32 a) : (iI a).toInt = a := Int32.toInt_ofInt_of_le (by have := h.1; omega) (by have := h.2; omega)
theorem iI_of (x : Int32) : x = iI x.toInt := (Int32.ofInt_toInt x).symm
theorem R32_toInt (x : Int32) : R32 x.toInt := ⟨by have := Int32.le_toInt x; omega, by have := Int32.toInt_lt x; omega⟩
theorem iI_lt {a b : Int} (ha : R32 a) (hb : R32 b) : iI a < iI b ↔ a < b := by rw [Int32.lt_iff_toInt_lt, iI_toInt ha, iI_toInt hb]
theorem iI_le {a b : Int} (ha : R32 a) (hb : R32 b) : iI a ≤ iI b ↔ a ≤ b := by rw [Int32.le_iff_toInt_le, iI_toInt ha, iI_toInt hb]
theorem iI_eq {a b : Int} (ha : R32 a) (hb : R32 b) : iI a = iI b ↔ a = b := by rw [← Int32.toInt_inj, iI_toInt ha, iI_toInt hb]
theorem iI_0 : iI 0 = 0 := rfl
theorem iI_clamp {a : Int} (h : R32 a) : (iI a).toNatClampNeg = a.toNat := Int32.toNatClampNeg_ofInt_of_le (by have := h.1; omega) (by have := h.2; omega)
theorem iI_nat (n : Nat) : iI (n : Int) = nI n := Int32.ofInt_eq_ofNat
theorem iI_div {a b : Int} (ha : 0 ≤ a ∧ a < 2147483648) (hb : 0 < b ∧ b < 2147483648) : iI a / iI b = iI (a / b) := by
  have h := Int32.ofInt_tdiv (a := a) (b := b) (by show (-2147483648 : Int) ≤ a; omega) (by show a ≤ (2147483647 : Int); omega) (by show (-2147483648 : Int) ≤ b; omega) (by show b ≤ (2147483647 : Int); omega)
  rw [Int.tdiv_eq_ediv_of_nonneg ha.1] at h
  exact h.symm
theorem iI_rem {a b : Int} (ha : 0 ≤ a ∧ a < 2147483648) (hb : 0 < b ∧ b < 2147483648) : iI a - iI a / iI b * iI b = iI (a % b) := by
  rw [iI_div ha hb, iI_mul, iI_sub, Int.emod_def, Int.mul_comm]
theorem lI_add (a b : Int) : lI a + lI b = lI (a + b) := (Int64.ofInt_add a b).symm
theorem lI_sub (a b : Int) : lI a - lI b = lI (a - b) := (Int64.ofInt_sub a b).symm
theorem lI_mul (a b : Int) : lI a * lI b = lI (a * b) := (Int64.ofInt_mul a b).symm
theorem lI_toInt {a : Int} (h : R64 a) : (lI a).toInt = a := Int64.toInt_ofInt_of_le (by have := h.1; omega) (by have := h.2; omega)
theorem lI_lt {a b : Int} (ha : R64 a) (hb : R64 b) : lI a < lI b ↔ a < b := by rw [Int64.lt_iff_toInt_lt, lI_toInt ha, lI_toInt hb]
theorem lI_eq {a b : Int} (ha : R64 a) (hb : R64 b) : lI a = lI b ↔ a = b := by rw [← Int64.toInt_inj, lI_toInt ha, lI_toInt hb]
theorem lI_div {a b : Int} (ha : 0 ≤ a ∧ a < 9223372036854775808) (hb : 0 < b ∧ b < 9223372036854775808) : lI a / lI b = lI (a / b) := by
  have h := Int64.ofInt_tdiv (a := a) (b := b) (by show (-9223372036854775808 : Int) ≤ a; omega) (by show a ≤ (9223372036854775807 : Int); omega) (by show (-9223372036854775808 : Int) ≤ b; omega) (by show b ≤ (9223372036854775807 : Int); omega)
  rw [Int.tdiv_eq_ediv_of_nonneg ha.1] at h
  exact h.symm
theorem lI_rem {a b : Int} (ha : 0 ≤ a ∧ a < 9223372036854775808) (hb : 0 < b ∧ b < 9223372036854775808) : lI a - lI a / lI b * lI b = lI (a % b) := by
  rw [lI_div ha hb, lI_mul, lI_sub, Int.emod_def, Int.mul_comm]
theorem iI_long {a : Int} (h : R32 a) : (iI a).toInt64 = lI a := Int32.toInt64_ofInt (by show (-2147483648 : Int) ≤ a; exact h.1) (by show a ≤ (2147483647 : Int); have := h.2; omega)
theorem lI_cmp {a b : Int} (ha : R64 a) (hb : R64 b) : lg_cmp (lI a) (lI b) = iI (if b < a then 1 else if a = b then 0 else -1) := by
  unfold lg_cmp
  by_cases h1 : b < a
  · rw [if_pos ((lI_lt hb ha).mpr h1), if_pos h1]; rfl
  · rw [if_neg (fun q => h1 ((lI_lt hb ha).mp q)), if_neg h1]
    by_cases h2 : a = b
    · rw [if_pos ((lI_eq ha hb).mpr h2), if_pos h2]; rfl
    · rw [if_neg (fun q => h2 ((lI_eq ha hb).mp q)), if_neg h2]; rfl
theorem fa_and (a b : Nat) : nI a &&& nI b = nI (a &&& b) := by
  apply Int32.toBitVec_inj.1
  show BitVec.ofNat 32 a &&& BitVec.ofNat 32 b = BitVec.ofNat 32 (a &&& b)
  apply BitVec.eq_of_getLsbD_eq
  intro i hi
  simp [hi]
theorem fa_or (a b : Nat) : nI a ||| nI b = nI (a ||| b) := by
  apply Int32.toBitVec_inj.1
  show BitVec.ofNat 32 a ||| BitVec.ofNat 32 b = BitVec.ofNat 32 (a ||| b)
  apply BitVec.eq_of_getLsbD_eq
  intro i hi
  simp [hi]
theorem iI_and (a b : Nat) : iI (a : Int) &&& iI (b : Int) = iI ((a &&& b : Nat) : Int) := by rw [iI_nat, iI_nat, iI_nat, fa_and]
theorem iI_or (a b : Nat) : iI (a : Int) ||| iI (b : Int) = iI ((a ||| b : Nat) : Int) := by rw [iI_nat, iI_nat, iI_nat, fa_or]
theorem sh_1 : ∀ c : Nat, c < 8 → iI 1 <<< (iI (c : Int) &&& 31) = iI ((2 ^ c : Nat) : Int) := by decide +kernel
theorem sh_r : ∀ s : Nat, s < 64 → ∀ c : Nat, c < 8 → iI (s : Int) >>> (iI (c : Int) &&& 31) = iI ((s / 2 ^ c : Nat) : Int) := by decide +kernel
theorem not_s : ∀ s : Nat, s < 64 → iI (s : Int) ^^^ iI (-1) = iI (-1 - (s : Int)) := by decide +kernel
theorem and_n : ∀ e : Nat, e < 64 → ∀ s : Nat, s < 64 → iI (e : Int) &&& iI (-1 - (s : Int)) = iI ((e &&& (63 ^^^ s) : Nat) : Int) := by decide +kernel
theorem and_m1 (x : Int32) : x &&& iI (-1) = x := by
  have : iI (-1) = -1 := rfl
  rw [this]
  simp
/-! ===== THE MEMORY: cell by cell, place by place ===== -/
abbrev Mem : Type := Nat → Nat → Int
def ia (g : Nat → Int) : Nat → Int32 := fun j => iI (g j)
abbrev shI (n : Nat) (g : Nat → Int) : Ob := .inl (false, n, ia g)
abbrev shZ (n : Nat) (g : Nat → Int) : Ob := .inl (true, n, ia g)
abbrev fsRoad (r : Nat) (g : Nat → Int) : List Value := [.int (iI (g 0)), .int (iI (g 1)), .int (iI (g 2)), .ref (r + 1), .ref (r + 2), .ref (r + 3), .ref (r + 4), .ref (r + 5), .int (iI (g 8)), .ref (r + 6), .int (iI (g 10)), .ref (r + 7), .ref (r + 8), .ref (r + 9), .int (iI (g 14)), .ref (r + 10), .ref (r + 11), .ref (r + 12)]
abbrev fsLim (l : Nat) (_ : Nat → Int) : List Value := [.ref (l + 1), .ref (l + 2), .ref (l + 3), .ref (l + 4), .ref (l + 5), .ref (l + 6), .ref (l + 7), .ref (l + 8)]
abbrev fsText (g : Nat → Int) : List Value := [.ref 54, .int (iI (g 1)), .int (iI (g 2))]
abbrev fsDrv (_ : Nat → Int) : List Value := [.ref 65, .ref 74]
abbrev fsSig (_ : Nat → Int) : List Value := [.ref 76, .ref 85]
abbrev fsCls (g : Nat → Int) : List Value := [.ref 1, .ref 14, .ref 27, .ref 40, .int (iI (g 4)), .int (iI (g 5)), .ref 53, .ref 55, .ref 64, .ref 75, .int (iI (g 10)), .int (iI (g 11)), .int (iI (g 12)), .int (iI (g 13)), .int (iI (g 14))]
abbrev fsMod (g : Nat → Int) : List Value := [.ref 87, .ref 88, .ref 89, .ref 90, .long (lI (g 4)), .long (lI (g 5)), .ref 91, .ref 92, .int (iI (g 8)), .ref 93, .ref 94, .ref 95, .ref 96, .ref 97, .ref 98, .int (iI (g 15)), .int (iI (g 16)), .int (iI (g 17)), .int (iI (g 18)), .int (iI (g 19)), .ref 99, .ref 100]
abbrev fs0 (_ : Nat → Int) : List Value := []
def shT : List ((Nat → Int) → Ob) := [fun g => .inr (11, fsCls g), fun g => .inr (6, fsRoad 1 g), fun g => shI 6 g, fun g => shI 6 g, fun g => shI 6 g, fun g => shI 6 g, fun g => shI 6 g, fun g => shI 20 g, fun g => shI 6 g, fun g => shI 6 g, fun g => shI 6 g, fun g => shI 8 g, fun g => shZ 8 g, fun g => shI 8 g, fun g => .inr (6, fsRoad 14 g), fun g => shI 6 g, fun g => shI 6 g, fun g => shI 6 g, fun g => shI 6 g, fun g => shI 6 g, fun g => shI 20 g, fun g => shI 6 g, fun g => shI 6 g, fun g => shI 6 g, fun g => shI 8 g, fun g => shZ 8 g, fun g => shI 8 g, fun g => .inr (6, fsRoad 27 g), fun g => shI 6 g, fun g => shI 6 g, fun g => shI 6 g, fun g => shI 6 g, fun g => shI 6 g, fun g => shI 20 g, fun g => shI 6 g, fun g => shI 6 g, fun g => shI 6 g, fun g => shI 8 g, fun g => shZ 8 g, fun g => shI 8 g, fun g => .inr (6, fsRoad 40 g), fun g => shI 6 g, fun g => shI 6 g, fun g => shI 6 g, fun g => shI 6 g, fun g => shI 6 g, fun g => shI 20 g, fun g => shI 6 g, fun g => shI 6 g, fun g => shI 6 g, fun g => shI 8 g, fun g => shZ 8 g, fun g => shI 8 g, fun g => .inr (7, fsText g), fun g => shI 150 g, fun g => .inr (4, fsLim 55 g), fun g => .inr (10, fs0 g), fun g => .inr (3, fs0 g), fun g => .inr (5, fs0 g), fun g => .inr (9, fs0 g), fun g => .inr (2, fs0 g), fun g => .inr (0, fs0 g), fun g => shI 6 g, fun g => shI 6 g, fun g => .inr (1, fsDrv g), fun g => .inr (4, fsLim 65 g), fun g => .inr (10, fs0 g), fun g => .inr (3, fs0 g), fun g => .inr (5, fs0 g), fun g => .inr (9, fs0 g), fun g => .inr (2, fs0 g), fun g => .inr (0, fs0 g), fun g => shI 6 g, fun g => shI 6 g, fun g => shI 6 g, fun g => .inr (8, fsSig g), fun g => .inr (4, fsLim 76 g), fun g => .inr (10, fs0 g), fun g => .inr (3, fs0 g), fun g => .inr (5, fs0 g), fun g => .inr (9, fs0 g), fun g => .inr (2, fs0 g), fun g => .inr (0, fs0 g), fun g => shI 6 g, fun g => shI 6 g, fun g => shI 10 g, fun g => .inr (12, fsMod g), fun g => shI 170 g, fun g => shI 340 g, fun g => shZ 2 g, fun g => shI 3 g, fun g => shI 6 g, fun g => shI 6 g, fun g => shZ 48 g, fun g => shZ 48 g, fun g => shI 36 g, fun g => shZ 64 g, fun g => shI 10 g, fun g => shI 150 g, fun g => shI 74 g, fun g => shI 5 g]
def sh (i : Nat) : (Nat → Int) → Ob := shT.getD i (fun g => shI 0 g)
def MM (G : Mem) : St := fun i => if i < 101 then some (sh i (G i)) else none
def ug (G : Mem) (i j : Nat) (v : Int) : Mem := fun a b => if a = i ∧ b = j then v else G a b
theorem MM_at {G : Mem} {i : Nat} (h : i < 101) : MM G i = some (sh i (G i)) := if_pos h
theorem MM_su {G : Mem} {i j : Nat} {v : Int} {o : Ob} (hi : i < 101) (ho : sh i (ug G i j v i) = o) : su (MM G) i o = MM (ug G i j v) := by
  funext a
  by_cases e : a = i
  · subst e
    rw [su_eq, MM_at hi, ho]
  · rw [su_ne e]
    unfold MM
    by_cases ha : a < 101
    · rw [if_pos ha, if_pos ha]
      congr 2
      funext b
      simp [ug, e]
    · rw [if_neg ha, if_neg ha]
theorem ug_at {G : Mem} {i j : Nat} {v : Int} : ug G i j v i j = v := if_pos ⟨rfl, rfl⟩
theorem ug_ne {G : Mem} {i j a b : Nat} {v : Int} (h : ¬ (a = i ∧ b = j)) : ug G i j v a b = G a b := if_neg h
theorem ug_nc {G : Mem} {i j a b : Nat} {v : Int} (h : a ≠ i) : ug G i j v a b = G a b := if_neg (fun q => h q.1)
theorem ug_np {G : Mem} {i j a b : Nat} {v : Int} (h : b ≠ j) : ug G i j v a b = G a b := if_neg (fun q => h q.2)
theorem ia_up {G : Mem} {i j : Nat} {v : Int} : upd (ia (G i)) j (iI v) = ia (ug G i j v i) := by
  funext b
  unfold upd ia ug
  by_cases e : b = j
  · simp [e]
  · simp [e]
/-! ===== ENDS: from here the method ends with an answer and a memory of which Post holds ===== -/
def RP (M : MI) (pc : Nat) (L : List (Option Value)) (st : List Value) (G : Mem) (Post : Option Value → Mem → Prop) : Prop :=
  ∃ (out : Option Value) (G' : Mem), Post out G' ∧ Rn M pc L st 101 (MM G) 0 0 out 101 (MM G')
def MP (M : MI) (as : List Value) (G : Mem) (Post : Option Value → Mem → Prop) : Prop :=
  ∃ (out : Option Value) (G' : Mem), Post out G' ∧ Mt M as 101 (MM G) out 101 (MM G')
def vi (Q : Int → Mem → Prop) : Option Value → Mem → Prop := fun o g => ∃ v : Int, o = some (.int (iI v)) ∧ Q v g
abbrev vx (e : Int) (G : Mem) : Option Value → Mem → Prop := vi (fun v g => e = v ∧ G = g)
def vl (Q : Int → Mem → Prop) : Option Value → Mem → Prop := fun o g => ∃ v : Int, o = some (.long (lI v)) ∧ Q v g
def vr (Q : Nat → Mem → Prop) : Option Value → Mem → Prop := fun o g => ∃ a : Nat, o = some (.ref a) ∧ Q a g
def vv (Q : Mem → Prop) : Option Value → Mem → Prop := fun o g => o = none ∧ Q g
theorem MP.of {M : MI} {as : List Value} {G : Mem} {Post : Option Value → Mem → Prop} (L : List (Option Value)) (hp : plainFor M.1 = true) (hl : (de as).length ≤ M.2.2.1) (hL : de as ++ List.replicate (M.2.2.1 - (de as).length) none = L) (h : RP M 0 L [] G Post) : MP M as G Post := by
  obtain ⟨o, g, h1, h2⟩ := h
  exact ⟨o, g, h1, Mt.of hp hl hL h2⟩
theorem MP.mono {M : MI} {as : List Value} {G : Mem} {P Q : Option Value → Mem → Prop} (h : MP M as G P) (hpq : ∀ o g, P o g → Q o g) : MP M as G Q := by
  obtain ⟨o, g, h1, h2⟩ := h
  exact ⟨o, g, hpq _ _ h1, h2⟩
theorem RP.mono {M : MI} {pc : Nat} {L : List (Option Value)} {st : List Value} {G : Mem} {P Q : Option Value → Mem → Prop} (h : RP M pc L st G P) (hpq : ∀ o g, P o g → Q o g) : RP M pc L st G Q := by
  obtain ⟨o, g, h1, h2⟩ := h
  exact ⟨o, g, hpq _ _ h1, h2⟩
theorem RP.step {M : MI} {pc pc1 : Nat} {L L1 : List (Option Value)} {st st1 : List Value} {G G1 : Mem} {Post : Option Value → Mem → Prop} (h : ∀ (o : Option Value) (g : Mem), Rn M pc1 L1 st1 101 (MM G1) 0 0 o 101 (MM g) → Rn M pc L st 101 (MM G) 0 0 o 101 (MM g)) (kk : RP M pc1 L1 st1 G1 Post) : RP M pc L st G Post := by
  obtain ⟨o, g, h1, h2⟩ := kk
  exact ⟨o, g, h1, h o g h2⟩
section KROWS
variable {M : MI} {pc : Nat} {L : List (Option Value)} {st : List Value} {G : Mem} {Post : Option Value → Mem → Prop}
theorem k_iconst {z : Int} (hd : decode M.2.1 pc = .ok (.iconst z, 1)) 
    (kk : RP M (pc + 1) L (.int (iI z) :: st) G Post) : RP M pc L (st) G Post := kk.step (fun o g h => r_iconst hd h)
theorem k_bipush {z : Int} (hd : decode M.2.1 pc = .ok (.bipush z, 2)) (hv : (Int8.ofInt z).toInt32 = iI z)
    (kk : RP M (pc + 2) L (.int (iI z) :: st) G Post) : RP M pc L (st) G Post := kk.step (fun o g h => r_bipush hd hv h)
theorem k_sipush {z : Int} (hd : decode M.2.1 pc = .ok (.sipush z, 3)) (hv : (Int16.ofInt z).toInt32 = iI z)
    (kk : RP M (pc + 3) L (.int (iI z) :: st) G Post) : RP M pc L (st) G Post := kk.step (fun o g h => r_sipush hd hv h)
theorem k_lconst {z : Fin 2} (hd : decode M.2.1 pc = .ok (.lconst z, 1)) 
    (kk : RP M (pc + 1) L (.long (lI ((z : Nat) : Int)) :: st) G Post) : RP M pc L (st) G Post := kk.step (fun o g h => r_lconst hd (by unfold lI; rw [Int64.ofInt_eq_ofNat]) h)
theorem k_ldc {i : Nat} (z : Int) (hd : decode M.2.1 pc = .ok (.ldc i, 2)) (hc : Cond.constant M.1.cls i (iI z) ∈ tb)
    (kk : RP M (pc + 2) L (.int (iI z) :: st) G Post) : RP M pc L (st) G Post := kk.step (fun o g h => r_ldc hd hc h)
theorem k_ldcw {i : Nat} (z : Int) (hd : decode M.2.1 pc = .ok (.ldc_w i, 3)) (hc : Cond.constant M.1.cls i (iI z) ∈ tb)
    (kk : RP M (pc + 3) L (.int (iI z) :: st) G Post) : RP M pc L (st) G Post := kk.step (fun o g h => r_ldcw hd hc h)
theorem k_ldc2 {i : Nat} (z : Int) (hd : decode M.2.1 pc = .ok (.ldc2_w i, 3)) (hc : Cond.constantLong M.1.cls i (lI z) ∈ tb)
    (kk : RP M (pc + 3) L (.long (lI z) :: st) G Post) : RP M pc L (st) G Post := kk.step (fun o g h => r_ldc2 hd hc h)
theorem k_iload_n {j : Fin 4} {x : Int} (hd : decode M.2.1 pc = .ok (.iload_n j, 1)) (hl : L[(j : Nat)]? = some (some (.int (iI x))))
    (kk : RP M (pc + 1) L (.int (iI x) :: st) G Post) : RP M pc L (st) G Post := kk.step (fun o g h => r_iload_n hd hl h)
theorem k_iload {j : Nat} {x : Int} (hd : decode M.2.1 pc = .ok (.iload j, 2)) (hl : L[j]? = some (some (.int (iI x))))
    (kk : RP M (pc + 2) L (.int (iI x) :: st) G Post) : RP M pc L (st) G Post := kk.step (fun o g h => r_iload hd hl h)
theorem k_istore_n {j : Fin 4} {x : Int} {L' : List (Option Value)} (hd : decode M.2.1 pc = .ok (.istore_n j, 1)) (hn : (j : Nat) < M.2.2.1) (hL2 : l1 L (j : Nat) (.int (iI x)) = L')
    (kk : RP M (pc + 1) L' (st) G Post) : RP M pc L (.int (iI x) :: st) G Post := kk.step (fun o g h => r_istore_n hd rfl hn hL2 h)
theorem k_istore {i : Nat} {x : Int} {L' : List (Option Value)} (hd : decode M.2.1 pc = .ok (.istore i, 2)) (hn : i < M.2.2.1) (hL2 : l1 L i (.int (iI x)) = L')
    (kk : RP M (pc + 2) L' (st) G Post) : RP M pc L (.int (iI x) :: st) G Post := kk.step (fun o g h => r_istore hd hn hL2 h)
theorem k_lload_n {j : Fin 4} {x : Int} (hd : decode M.2.1 pc = .ok (.lload_n j, 1)) (hl : L[(j : Nat)]? = some (some (.long (lI x))))
    (kk : RP M (pc + 1) L (.long (lI x) :: st) G Post) : RP M pc L (st) G Post := kk.step (fun o g h => r_lload_n hd hl h)
theorem k_lload {j : Nat} {x : Int} (hd : decode M.2.1 pc = .ok (.lload j, 2)) (hl : L[j]? = some (some (.long (lI x))))
    (kk : RP M (pc + 2) L (.long (lI x) :: st) G Post) : RP M pc L (st) G Post := kk.step (fun o g h => r_lload hd hl h)
theorem k_lstore_n {j : Fin 4} {x : Int} {L' : List (Option Value)} (hd : decode M.2.1 pc = .ok (.lstore_n j, 1)) (hn : (j : Nat) + 1 < M.2.2.1) (hL2 : l2 L (j : Nat) (.long (lI x)) = L')
    (kk : RP M (pc + 1) L' (st) G Post) : RP M pc L (.long (lI x) :: st) G Post := kk.step (fun o g h => r_lstore_n hd rfl hn hL2 h)
theorem k_lstore {i : Nat} {x : Int} {L' : List (Option Value)} (hd : decode M.2.1 pc = .ok (.lstore i, 2)) (hn : i + 1 < M.2.2.1) (hL2 : l2 L i (.long (lI x)) = L')
    (kk : RP M (pc + 2) L' (st) G Post) : RP M pc L (.long (lI x) :: st) G Post := kk.step (fun o g h => r_lstore hd hn hL2 h)
theorem k_aload_n {j : Fin 4} {x : Nat} (hd : decode M.2.1 pc = .ok (.aload_n j, 1)) (hl : L[(j : Nat)]? = some (some (.ref (x))))
    (kk : RP M (pc + 1) L (.ref (x) :: st) G Post) : RP M pc L (st) G Post := kk.step (fun o g h => r_aload_n hd hl h)
theorem k_aload {j : Nat} {x : Nat} (hd : decode M.2.1 pc = .ok (.aload j, 2)) (hl : L[j]? = some (some (.ref (x))))
    (kk : RP M (pc + 2) L (.ref (x) :: st) G Post) : RP M pc L (st) G Post := kk.step (fun o g h => r_aload hd hl h)
theorem k_astore_n {j : Fin 4} {x : Nat} {L' : List (Option Value)} (hd : decode M.2.1 pc = .ok (.astore_n j, 1)) (hn : (j : Nat) < M.2.2.1) (hL2 : l1 L (j : Nat) (.ref (x)) = L')
    (kk : RP M (pc + 1) L' (st) G Post) : RP M pc L (.ref (x) :: st) G Post := kk.step (fun o g h => r_astore_n hd rfl hn hL2 h)
theorem k_astore {i : Nat} {x : Nat} {L' : List (Option Value)} (hd : decode M.2.1 pc = .ok (.astore i, 2)) (hn : i < M.2.2.1) (hL2 : l1 L i (.ref (x)) = L')
    (kk : RP M (pc + 2) L' (st) G Post) : RP M pc L (.ref (x) :: st) G Post := kk.step (fun o g h => r_astore hd hn hL2 h)
theorem k_sload_n {j : Fin 4} {x : UInt32} (hd : decode M.2.1 pc = .ok (.aload_n j, 1)) (hl : L[(j : Nat)]? = some (some (.float x)))
    (kk : RP M (pc + 1) L (.float x :: st) G Post) : RP M pc L (st) G Post := kk.step (fun o g h => r_sload_n hd hl h)
theorem k_iinc {i : Nat} {z x : Int} {L' : List (Option Value)} (hd : decode M.2.1 pc = .ok (.iinc i z, 3)) (hl : L[i]? = some (some (.int (iI x)))) (hn : i < M.2.2.1) (hL2 : l1 L i (.int (iI (x + z))) = L')
    (kk : RP M (pc + 3) L' (st) G Post) : RP M pc L (st) G Post := kk.step (fun o g h => r_iinc hd hl hn (by rw [← hL2]; show l1 L i (.int (iI x + iI z)) = _; rw [iI_add]) h)
theorem k_iadd {x y : Int} (hd : decode M.2.1 pc = .ok (.iadd, 1)) 
    (kk : RP M (pc + 1) L (.int (iI (x + y)) :: st) G Post) : RP M pc L (.int (iI y) :: .int (iI x) :: st) G Post := kk.step (fun o g h => r_iadd hd (by rw [iI_add]; exact h))
theorem k_isub {x y : Int} (hd : decode M.2.1 pc = .ok (.isub, 1)) 
    (kk : RP M (pc + 1) L (.int (iI (x - y)) :: st) G Post) : RP M pc L (.int (iI y) :: .int (iI x) :: st) G Post := kk.step (fun o g h => r_isub hd (by rw [iI_sub]; exact h))
theorem k_imul {x y : Int} (hd : decode M.2.1 pc = .ok (.imul, 1)) 
    (kk : RP M (pc + 1) L (.int (iI (x * y)) :: st) G Post) : RP M pc L (.int (iI y) :: .int (iI x) :: st) G Post := kk.step (fun o g h => r_imul hd (by rw [iI_mul]; exact h))
theorem k_ineg {x : Int} (hd : decode M.2.1 pc = .ok (.ineg, 1)) 
    (kk : RP M (pc + 1) L (.int (iI (-x)) :: st) G Post) : RP M pc L (.int (iI x) :: st) G Post := kk.step (fun o g h => r_ineg hd (by rw [iI_neg]; exact h))
theorem k_idiv {x y : Int} (hd : decode M.2.1 pc = .ok (.idiv, 1)) (hx : 0 ≤ x ∧ x < 2147483648) (hy : 0 < y ∧ y < 2147483648)
    (kk : RP M (pc + 1) L (.int (iI (x / y)) :: st) G Post) : RP M pc L (.int (iI y) :: .int (iI x) :: st) G Post := kk.step (fun o g h => r_idiv hd (fun e => by rw [← iI_0, iI_eq ⟨by omega, hy.2⟩ ⟨by omega, by omega⟩] at e; omega) (by rw [iI_div hx hy]; exact h))
theorem k_irem {x y : Int} (hd : decode M.2.1 pc = .ok (.irem, 1)) (hx : 0 ≤ x ∧ x < 2147483648) (hy : 0 < y ∧ y < 2147483648)
    (kk : RP M (pc + 1) L (.int (iI (x % y)) :: st) G Post) : RP M pc L (.int (iI y) :: .int (iI x) :: st) G Post := kk.step (fun o g h => r_irem hd (fun e => by rw [← iI_0, iI_eq ⟨by omega, hy.2⟩ ⟨by omega, by omega⟩] at e; omega) (by rw [iI_rem hx hy]; exact h))
theorem k_iand {x y : Int} (a b : Nat) (hd : decode M.2.1 pc = .ok (.iand, 1)) (hx : x = a) (hy : y = b)
    (kk : RP M (pc + 1) L (.int (iI ((a &&& b : Nat) : Int)) :: st) G Post) : RP M pc L (.int (iI y) :: .int (iI x) :: st) G Post := kk.step (fun o g h => r_iand hd (by rw [hx, hy, iI_and]; exact h))
theorem k_ior {x y : Int} (a b : Nat) (hd : decode M.2.1 pc = .ok (.ior, 1)) (hx : x = a) (hy : y = b)
    (kk : RP M (pc + 1) L (.int (iI ((a ||| b : Nat) : Int)) :: st) G Post) : RP M pc L (.int (iI y) :: .int (iI x) :: st) G Post := kk.step (fun o g h => r_ior hd (by rw [hx, hy, iI_or]; exact h))
theorem k_iandn {x y : Int} (e s : Nat) (hd : decode M.2.1 pc = .ok (.iand, 1)) (hx : x = e) (hy : y = -1 - (s : Int)) (he : e < 64) (hs : s < 64)
    (kk : RP M (pc + 1) L (.int (iI ((e &&& (63 ^^^ s) : Nat) : Int)) :: st) G Post) : RP M pc L (.int (iI y) :: .int (iI x) :: st) G Post := kk.step (fun o g h => r_iand hd (by rw [hx, hy, and_n e he s hs]; exact h))
theorem k_iandm {x : Int} (hd : decode M.2.1 pc = .ok (.iand, 1)) 
    (kk : RP M (pc + 1) L (.int (iI x) :: st) G Post) : RP M pc L (.int (iI (-1)) :: .int (iI x) :: st) G Post := kk.step (fun o g h => r_iand hd (by rw [and_m1]; exact h))
theorem k_iand1 {x : Int} (a : Nat) (hd : decode M.2.1 pc = .ok (.iand, 1)) (hx : x = a)
    (kk : RP M (pc + 1) L (.int (iI ((a % 2 : Nat) : Int)) :: st) G Post) : RP M pc L (.int (iI 1) :: .int (iI x) :: st) G Post := kk.step (fun o g h => r_iand hd (by rw [hx, show (1 : Int) = ((1 : Nat) : Int) from rfl, iI_and, Nat.and_one_is_mod]; exact h))
theorem k_not {x : Int} (s : Nat) (hd : decode M.2.1 pc = .ok (.ixor, 1)) (hx : x = s) (hs : s < 64)
    (kk : RP M (pc + 1) L (.int (iI (-1 - (s : Int))) :: st) G Post) : RP M pc L (.int (iI (-1)) :: .int (iI x) :: st) G Post := kk.step (fun o g h => r_ixor hd (by rw [hx, not_s s hs]; exact h))
theorem k_ishl {y : Int} (c : Nat) (hd : decode M.2.1 pc = .ok (.ishl, 1)) (hy : y = c) (hc : c < 8)
    (kk : RP M (pc + 1) L (.int (iI ((2 ^ c : Nat) : Int)) :: st) G Post) : RP M pc L (.int (iI y) :: .int (iI 1) :: st) G Post := kk.step (fun o g h => r_ishl hd (by rw [hy, sh_1 c hc]; exact h))
theorem k_ishr {x y : Int} (s c : Nat) (hd : decode M.2.1 pc = .ok (.ishr, 1)) (hx : x = s) (hy : y = c) (hs : s < 64) (hc : c < 8)
    (kk : RP M (pc + 1) L (.int (iI ((s / 2 ^ c : Nat) : Int)) :: st) G Post) : RP M pc L (.int (iI y) :: .int (iI x) :: st) G Post := kk.step (fun o g h => r_ishr hd (by rw [hx, hy, sh_r s hs c hc]; exact h))
theorem k_ladd {x y : Int} (hd : decode M.2.1 pc = .ok (.ladd, 1)) 
    (kk : RP M (pc + 1) L (.long (lI (x + y)) :: st) G Post) : RP M pc L (.long (lI y) :: .long (lI x) :: st) G Post := kk.step (fun o g h => r_ladd hd (by rw [lI_add]; exact h))
theorem k_lsub {x y : Int} (hd : decode M.2.1 pc = .ok (.lsub, 1)) 
    (kk : RP M (pc + 1) L (.long (lI (x - y)) :: st) G Post) : RP M pc L (.long (lI y) :: .long (lI x) :: st) G Post := kk.step (fun o g h => r_lsub hd (by rw [lI_sub]; exact h))
theorem k_lmul {x y : Int} (hd : decode M.2.1 pc = .ok (.lmul, 1)) 
    (kk : RP M (pc + 1) L (.long (lI (x * y)) :: st) G Post) : RP M pc L (.long (lI y) :: .long (lI x) :: st) G Post := kk.step (fun o g h => r_lmul hd (by rw [lI_mul]; exact h))
theorem k_ldiv {x y : Int} (hd : decode M.2.1 pc = .ok (.ldiv, 1)) (hx : 0 ≤ x ∧ x < 9223372036854775808) (hy : 0 < y ∧ y < 9223372036854775808)
    (kk : RP M (pc + 1) L (.long (lI (x / y)) :: st) G Post) : RP M pc L (.long (lI y) :: .long (lI x) :: st) G Post := kk.step (fun o g h => r_ldiv hd (fun e => by rw [show (0 : Int64) = lI 0 from rfl, lI_eq ⟨by omega, hy.2⟩ ⟨by omega, by omega⟩] at e; omega) (by rw [lI_div hx hy]; exact h))
theorem k_lrem {x y : Int} (hd : decode M.2.1 pc = .ok (.lrem, 1)) (hx : 0 ≤ x ∧ x < 9223372036854775808) (hy : 0 < y ∧ y < 9223372036854775808)
    (kk : RP M (pc + 1) L (.long (lI (x % y)) :: st) G Post) : RP M pc L (.long (lI y) :: .long (lI x) :: st) G Post := kk.step (fun o g h => r_lrem hd (fun e => by rw [show (0 : Int64) = lI 0 from rfl, lI_eq ⟨by omega, hy.2⟩ ⟨by omega, by omega⟩] at e; omega) (by rw [lI_rem hx hy]; exact h))
theorem k_i2l {x : Int} (hd : decode M.2.1 pc = .ok (.i2l, 1)) (hx : R32 x)
    (kk : RP M (pc + 1) L (.long (lI x) :: st) G Post) : RP M pc L (.int (iI x) :: st) G Post := kk.step (fun o g h => r_i2l hd (by rw [iI_long hx]; exact h))
theorem k_lcmp {x y : Int} (hd : decode M.2.1 pc = .ok (.lcmp, 1)) (hx : R64 x) (hy : R64 y)
    (kk : RP M (pc + 1) L (.int (iI (if y < x then 1 else if x = y then 0 else -1)) :: st) G Post) : RP M pc L (.long (lI y) :: .long (lI x) :: st) G Post := kk.step (fun o g h => r_lcmp hd (by rw [lI_cmp hx hy]; exact h))
theorem k_dup {v : Value} (hd : decode M.2.1 pc = .ok (.dup, 1)) (hv : v.category = 1)
    (kk : RP M (pc + 1) L (v :: v :: st) G Post) : RP M pc L (v :: st) G Post := kk.step (fun o g h => r_dup hd hv h)
theorem k_pop {v : Value} (hd : decode M.2.1 pc = .ok (.pop, 1)) (hv : v.category = 1)
    (kk : RP M (pc + 1) L (st) G Post) : RP M pc L (v :: st) G Post := kk.step (fun o g h => r_pop hd hv h)
theorem k_dup2 {v w : Value} (hd : decode M.2.1 pc = .ok (.dup2, 1)) (hv : v.category = 1) (hw : w.category = 1)
    (kk : RP M (pc + 1) L (v :: w :: v :: w :: st) G Post) : RP M pc L (v :: w :: st) G Post := kk.step (fun o g h => r_dup2 hd hv hw h)
theorem k_icmp_eq {x y : Int} {off : Int} (tgt : Nat) (hd : decode M.2.1 pc = .ok (.if_icmp .eq off, 3)) (ht : (pc : Int) + off = (tgt : Int)) (hx : R32 x) (hy : R32 y)
    (kt : x = y → RP M tgt L st G Post) (kf : ¬ x = y → RP M (pc + 3) L st G Post) : RP M pc L (.int (iI y) :: .int (iI x) :: st) G Post := by
  have e : (iI x) = (iI y) ↔ x = y := iI_eq hx hy
  by_cases hp : x = y
  · obtain ⟨o, g, h1, h2⟩ := kt hp
    exact ⟨o, g, h1, r_icmp_eq hd ht (fun _ => h2) (fun q => absurd hp (by intro z; first | exact q (e.mpr z) | exact (e.mpr z) q))⟩
  · obtain ⟨o, g, h1, h2⟩ := kf (by first | exact hp | exact Classical.not_not.mp hp)
    exact ⟨o, g, h1, r_icmp_eq hd ht (fun q => absurd (e.mp q) hp) (fun _ => h2)⟩
theorem k_if_eq {x : Int} {off : Int} (tgt : Nat) (hd : decode M.2.1 pc = .ok (.ifCond .eq off, 3)) (ht : (pc : Int) + off = (tgt : Int)) (hx : R32 x)
    (kt : x = 0 → RP M tgt L st G Post) (kf : ¬ x = 0 → RP M (pc + 3) L st G Post) : RP M pc L (.int (iI x) :: st) G Post := by
  have e : (iI x) = (iI 0) ↔ x = 0 := iI_eq hx (show R32 0 from ⟨by decide, by decide⟩)
  by_cases hp : x = 0
  · obtain ⟨o, g, h1, h2⟩ := kt hp
    exact ⟨o, g, h1, r_if_eq hd ht (fun _ => h2) (fun q => absurd hp (by intro z; first | exact q (e.mpr z) | exact (e.mpr z) q))⟩
  · obtain ⟨o, g, h1, h2⟩ := kf (by first | exact hp | exact Classical.not_not.mp hp)
    exact ⟨o, g, h1, r_if_eq hd ht (fun q => absurd (e.mp q) hp) (fun _ => h2)⟩
theorem k_icmp_ne {x y : Int} {off : Int} (tgt : Nat) (hd : decode M.2.1 pc = .ok (.if_icmp .ne off, 3)) (ht : (pc : Int) + off = (tgt : Int)) (hx : R32 x) (hy : R32 y)
    (kt : ¬ x = y → RP M tgt L st G Post) (kf : x = y → RP M (pc + 3) L st G Post) : RP M pc L (.int (iI y) :: .int (iI x) :: st) G Post := by
  have e : ¬ (iI x) = (iI y) ↔ ¬ x = y := not_congr (iI_eq hx hy)
  by_cases hp : ¬ x = y
  · obtain ⟨o, g, h1, h2⟩ := kt hp
    exact ⟨o, g, h1, r_icmp_ne hd ht (fun _ => h2) (fun q => absurd hp (by intro z; first | exact q (e.mpr z) | exact (e.mpr z) q))⟩
  · obtain ⟨o, g, h1, h2⟩ := kf (by first | exact hp | exact Classical.not_not.mp hp)
    exact ⟨o, g, h1, r_icmp_ne hd ht (fun q => absurd (e.mp q) hp) (fun _ => h2)⟩
theorem k_if_ne {x : Int} {off : Int} (tgt : Nat) (hd : decode M.2.1 pc = .ok (.ifCond .ne off, 3)) (ht : (pc : Int) + off = (tgt : Int)) (hx : R32 x)
    (kt : ¬ x = 0 → RP M tgt L st G Post) (kf : x = 0 → RP M (pc + 3) L st G Post) : RP M pc L (.int (iI x) :: st) G Post := by
  have e : ¬ (iI x) = (iI 0) ↔ ¬ x = 0 := not_congr (iI_eq hx (show R32 0 from ⟨by decide, by decide⟩))
  by_cases hp : ¬ x = 0
  · obtain ⟨o, g, h1, h2⟩ := kt hp
    exact ⟨o, g, h1, r_if_ne hd ht (fun _ => h2) (fun q => absurd hp (by intro z; first | exact q (e.mpr z) | exact (e.mpr z) q))⟩
  · obtain ⟨o, g, h1, h2⟩ := kf (by first | exact hp | exact Classical.not_not.mp hp)
    exact ⟨o, g, h1, r_if_ne hd ht (fun q => absurd (e.mp q) hp) (fun _ => h2)⟩
theorem k_icmp_lt {x y : Int} {off : Int} (tgt : Nat) (hd : decode M.2.1 pc = .ok (.if_icmp .lt off, 3)) (ht : (pc : Int) + off = (tgt : Int)) (hx : R32 x) (hy : R32 y)
    (kt : x < y → RP M tgt L st G Post) (kf : ¬ x < y → RP M (pc + 3) L st G Post) : RP M pc L (.int (iI y) :: .int (iI x) :: st) G Post := by
  have e : (iI x) < (iI y) ↔ x < y := iI_lt hx hy
  by_cases hp : x < y
  · obtain ⟨o, g, h1, h2⟩ := kt hp
    exact ⟨o, g, h1, r_icmp_lt hd ht (fun _ => h2) (fun q => absurd hp (by intro z; first | exact q (e.mpr z) | exact (e.mpr z) q))⟩
  · obtain ⟨o, g, h1, h2⟩ := kf (by first | exact hp | exact Classical.not_not.mp hp)
    exact ⟨o, g, h1, r_icmp_lt hd ht (fun q => absurd (e.mp q) hp) (fun _ => h2)⟩
theorem k_if_lt {x : Int} {off : Int} (tgt : Nat) (hd : decode M.2.1 pc = .ok (.ifCond .lt off, 3)) (ht : (pc : Int) + off = (tgt : Int)) (hx : R32 x)
    (kt : x < 0 → RP M tgt L st G Post) (kf : ¬ x < 0 → RP M (pc + 3) L st G Post) : RP M pc L (.int (iI x) :: st) G Post := by
  have e : (iI x) < (iI 0) ↔ x < 0 := iI_lt hx (show R32 0 from ⟨by decide, by decide⟩)
  by_cases hp : x < 0
  · obtain ⟨o, g, h1, h2⟩ := kt hp
    exact ⟨o, g, h1, r_if_lt hd ht (fun _ => h2) (fun q => absurd hp (by intro z; first | exact q (e.mpr z) | exact (e.mpr z) q))⟩
  · obtain ⟨o, g, h1, h2⟩ := kf (by first | exact hp | exact Classical.not_not.mp hp)
    exact ⟨o, g, h1, r_if_lt hd ht (fun q => absurd (e.mp q) hp) (fun _ => h2)⟩
theorem k_icmp_ge {x y : Int} {off : Int} (tgt : Nat) (hd : decode M.2.1 pc = .ok (.if_icmp .ge off, 3)) (ht : (pc : Int) + off = (tgt : Int)) (hx : R32 x) (hy : R32 y)
    (kt : y ≤ x → RP M tgt L st G Post) (kf : ¬ y ≤ x → RP M (pc + 3) L st G Post) : RP M pc L (.int (iI y) :: .int (iI x) :: st) G Post := by
  have e : (iI y) ≤ (iI x) ↔ y ≤ x := iI_le hy hx
  by_cases hp : y ≤ x
  · obtain ⟨o, g, h1, h2⟩ := kt hp
    exact ⟨o, g, h1, r_icmp_ge hd ht (fun _ => h2) (fun q => absurd hp (by intro z; first | exact q (e.mpr z) | exact (e.mpr z) q))⟩
  · obtain ⟨o, g, h1, h2⟩ := kf (by first | exact hp | exact Classical.not_not.mp hp)
    exact ⟨o, g, h1, r_icmp_ge hd ht (fun q => absurd (e.mp q) hp) (fun _ => h2)⟩
theorem k_if_ge {x : Int} {off : Int} (tgt : Nat) (hd : decode M.2.1 pc = .ok (.ifCond .ge off, 3)) (ht : (pc : Int) + off = (tgt : Int)) (hx : R32 x)
    (kt : 0 ≤ x → RP M tgt L st G Post) (kf : ¬ 0 ≤ x → RP M (pc + 3) L st G Post) : RP M pc L (.int (iI x) :: st) G Post := by
  have e : (iI 0) ≤ (iI x) ↔ 0 ≤ x := iI_le (show R32 0 from ⟨by decide, by decide⟩) hx
  by_cases hp : 0 ≤ x
  · obtain ⟨o, g, h1, h2⟩ := kt hp
    exact ⟨o, g, h1, r_if_ge hd ht (fun _ => h2) (fun q => absurd hp (by intro z; first | exact q (e.mpr z) | exact (e.mpr z) q))⟩
  · obtain ⟨o, g, h1, h2⟩ := kf (by first | exact hp | exact Classical.not_not.mp hp)
    exact ⟨o, g, h1, r_if_ge hd ht (fun q => absurd (e.mp q) hp) (fun _ => h2)⟩
theorem k_icmp_gt {x y : Int} {off : Int} (tgt : Nat) (hd : decode M.2.1 pc = .ok (.if_icmp .gt off, 3)) (ht : (pc : Int) + off = (tgt : Int)) (hx : R32 x) (hy : R32 y)
    (kt : y < x → RP M tgt L st G Post) (kf : ¬ y < x → RP M (pc + 3) L st G Post) : RP M pc L (.int (iI y) :: .int (iI x) :: st) G Post := by
  have e : (iI y) < (iI x) ↔ y < x := iI_lt hy hx
  by_cases hp : y < x
  · obtain ⟨o, g, h1, h2⟩ := kt hp
    exact ⟨o, g, h1, r_icmp_gt hd ht (fun _ => h2) (fun q => absurd hp (by intro z; first | exact q (e.mpr z) | exact (e.mpr z) q))⟩
  · obtain ⟨o, g, h1, h2⟩ := kf (by first | exact hp | exact Classical.not_not.mp hp)
    exact ⟨o, g, h1, r_icmp_gt hd ht (fun q => absurd (e.mp q) hp) (fun _ => h2)⟩
theorem k_if_gt {x : Int} {off : Int} (tgt : Nat) (hd : decode M.2.1 pc = .ok (.ifCond .gt off, 3)) (ht : (pc : Int) + off = (tgt : Int)) (hx : R32 x)
    (kt : 0 < x → RP M tgt L st G Post) (kf : ¬ 0 < x → RP M (pc + 3) L st G Post) : RP M pc L (.int (iI x) :: st) G Post := by
  have e : (iI 0) < (iI x) ↔ 0 < x := iI_lt (show R32 0 from ⟨by decide, by decide⟩) hx
  by_cases hp : 0 < x
  · obtain ⟨o, g, h1, h2⟩ := kt hp
    exact ⟨o, g, h1, r_if_gt hd ht (fun _ => h2) (fun q => absurd hp (by intro z; first | exact q (e.mpr z) | exact (e.mpr z) q))⟩
  · obtain ⟨o, g, h1, h2⟩ := kf (by first | exact hp | exact Classical.not_not.mp hp)
    exact ⟨o, g, h1, r_if_gt hd ht (fun q => absurd (e.mp q) hp) (fun _ => h2)⟩
theorem k_icmp_le {x y : Int} {off : Int} (tgt : Nat) (hd : decode M.2.1 pc = .ok (.if_icmp .le off, 3)) (ht : (pc : Int) + off = (tgt : Int)) (hx : R32 x) (hy : R32 y)
    (kt : x ≤ y → RP M tgt L st G Post) (kf : ¬ x ≤ y → RP M (pc + 3) L st G Post) : RP M pc L (.int (iI y) :: .int (iI x) :: st) G Post := by
  have e : (iI x) ≤ (iI y) ↔ x ≤ y := iI_le hx hy
  by_cases hp : x ≤ y
  · obtain ⟨o, g, h1, h2⟩ := kt hp
    exact ⟨o, g, h1, r_icmp_le hd ht (fun _ => h2) (fun q => absurd hp (by intro z; first | exact q (e.mpr z) | exact (e.mpr z) q))⟩
  · obtain ⟨o, g, h1, h2⟩ := kf (by first | exact hp | exact Classical.not_not.mp hp)
    exact ⟨o, g, h1, r_icmp_le hd ht (fun q => absurd (e.mp q) hp) (fun _ => h2)⟩
theorem k_if_le {x : Int} {off : Int} (tgt : Nat) (hd : decode M.2.1 pc = .ok (.ifCond .le off, 3)) (ht : (pc : Int) + off = (tgt : Int)) (hx : R32 x)
    (kt : x ≤ 0 → RP M tgt L st G Post) (kf : ¬ x ≤ 0 → RP M (pc + 3) L st G Post) : RP M pc L (.int (iI x) :: st) G Post := by
  have e : (iI x) ≤ (iI 0) ↔ x ≤ 0 := iI_le hx (show R32 0 from ⟨by decide, by decide⟩)
  by_cases hp : x ≤ 0
  · obtain ⟨o, g, h1, h2⟩ := kt hp
    exact ⟨o, g, h1, r_if_le hd ht (fun _ => h2) (fun q => absurd hp (by intro z; first | exact q (e.mpr z) | exact (e.mpr z) q))⟩
  · obtain ⟨o, g, h1, h2⟩ := kf (by first | exact hp | exact Classical.not_not.mp hp)
    exact ⟨o, g, h1, r_if_le hd ht (fun q => absurd (e.mp q) hp) (fun _ => h2)⟩
theorem k_ifb_eq {p : Prop} [Decidable p] {off : Int} (tgt : Nat) (hd : decode M.2.1 pc = .ok (.ifCond .eq off, 3)) (ht : (pc : Int) + off = (tgt : Int))
    (kt : ¬ p → RP M tgt L st G Post) (kf : p → RP M (pc + 3) L st G Post) : RP M pc L (.int (iI (bI p)) :: st) G Post := by
  refine k_if_eq tgt hd ht (by unfold bI; split <;> decide) (fun h => kt ?_) (fun h => kf ?_)
  · unfold bI at h; split at h <;> first | assumption | omega
  · unfold bI at h; split at h <;> first | assumption | omega
theorem k_ifb_ne {p : Prop} [Decidable p] {off : Int} (tgt : Nat) (hd : decode M.2.1 pc = .ok (.ifCond .ne off, 3)) (ht : (pc : Int) + off = (tgt : Int))
    (kt : p → RP M tgt L st G Post) (kf : ¬ p → RP M (pc + 3) L st G Post) : RP M pc L (.int (iI (bI p)) :: st) G Post := by
  refine k_if_ne tgt hd ht (by unfold bI; split <;> decide) (fun h => kt ?_) (fun h => kf ?_)
  · unfold bI at h; split at h <;> first | assumption | omega
  · unfold bI at h; split at h <;> first | assumption | omega
theorem RP_int {x y : Int} (e : y = x) (kk : RP M pc L (.int (iI x) :: st) G Post) : RP M pc L (.int (iI y) :: st) G Post := e ▸ kk
theorem k_goto {off : Int} (tgt : Nat) (hd : decode M.2.1 pc = .ok (.goto off, 3)) (ht : (pc : Int) + off = (tgt : Int)) (kk : RP M tgt L st G Post) : RP M pc L st G Post := kk.step (fun o g h => r_goto hd ht h)
theorem k_tsOut {dflt lo hi : Int} {offs : Array Int} {len : Nat} {x : Int} (tgt : Nat) (hd : decode M.2.1 pc = .ok (.tableswitch dflt lo hi offs, len)) (hx : R32 x) (h : x < lo ∨ hi < x) (ht : (pc : Int) + dflt = (tgt : Int))
    (kk : RP M tgt L st G Post) : RP M pc L (.int (iI x) :: st) G Post := kk.step (fun o g q => r_tsOut hd (by rw [iI_toInt hx]; exact h) ht q)
theorem k_tsIn {dflt lo hi : Int} {offs : Array Int} {len : Nat} {x off : Int} (tgt : Nat) (hd : decode M.2.1 pc = .ok (.tableswitch dflt lo hi offs, len)) (v : Int) (hx : x = v) (hr : R32 v) (h : ¬ v < lo ∧ ¬ hi < v) (ho : offs[(v - lo).toNat]? = some off) (ht : (pc : Int) + off = (tgt : Int))
    (kk : RP M tgt L st G Post) : RP M pc L (.int (iI x) :: st) G Post := kk.step (fun o g q => r_tsIn hd (by rw [hx, iI_toInt hr]; exact h.1) (by rw [hx, iI_toInt hr]; exact h.2) (by rw [hx, iI_toInt hr]; exact ho) ht q)
/-! fields of the memory's objects -/
theorem k_getI {i idx ci fk : Nat} {fin dec : Bool} {ty : FieldType} {fs : (Nat → Int) → List Value} (hd : decode M.2.1 pc = .ok (.getfield idx, 3)) (F : FSite M.1.cls idx ci fk fin dec ty) (hi : i < 101) (hs : ∀ g, sh i g = .inr (ci, fs g)) (hv : ∀ g, (fs g)[fk]? = some (.int (iI (g fk))))
    (kk : RP M (pc + 3) L (.int (iI (G i fk)) :: st) G Post) : RP M pc L (.ref i :: st) G Post := kk.step (fun o g h => r_getf hd F ((MM_at hi).trans (by rw [hs])) (hv _) h)
theorem k_getL {i idx ci fk : Nat} {fin dec : Bool} {ty : FieldType} {fs : (Nat → Int) → List Value} (hd : decode M.2.1 pc = .ok (.getfield idx, 3)) (F : FSite M.1.cls idx ci fk fin dec ty) (hi : i < 101) (hs : ∀ g, sh i g = .inr (ci, fs g)) (hv : ∀ g, (fs g)[fk]? = some (.long (lI (g fk))))
    (kk : RP M (pc + 3) L (.long (lI (G i fk)) :: st) G Post) : RP M pc L (.ref i :: st) G Post := kk.step (fun o g h => r_getf hd F ((MM_at hi).trans (by rw [hs])) (hv _) h)
theorem k_getR {i idx ci fk q : Nat} {fin dec : Bool} {ty : FieldType} {fs : (Nat → Int) → List Value} (hd : decode M.2.1 pc = .ok (.getfield idx, 3)) (F : FSite M.1.cls idx ci fk fin dec ty) (hi : i < 101) (hs : ∀ g, sh i g = .inr (ci, fs g)) (hv : ∀ g, (fs g)[fk]? = some (.ref q))
    (kk : RP M (pc + 3) L (.ref q :: st) G Post) : RP M pc L (.ref i :: st) G Post := kk.step (fun o g h => r_getf hd F ((MM_at hi).trans (by rw [hs])) (hv _) h)
theorem k_putI {i idx ci fk : Nat} {dec : Bool} {ty : FieldType} {fs : (Nat → Int) → List Value} {v : Int} (hd : decode M.2.1 pc = .ok (.putfield idx, 3)) (F : FSite M.1.cls idx ci fk false dec ty) (hi : i < 101) (hs : ∀ g, sh i g = .inr (ci, fs g)) (hl : ∀ g, fk < (fs g).length) (hf : vfit ty (.int (iI v)) = true) (hv : ∀ g : Nat → Int, fs (fun b => if i = i ∧ b = fk then v else g b) = (fs g).set fk (.int (iI v)))
    (kk : RP M (pc + 3) L st (ug G i fk v) Post) : RP M pc L (.int (iI v) :: .ref i :: st) G Post := kk.step (fun o g h => r_putf hd F ((MM_at hi).trans (by rw [hs])) (hl _) hf (by rw [MM_su (v := v) hi (by rw [hs]; exact congrArg (fun z => Sum.inr (ci, z)) (hv (G i)))]; exact h))
theorem k_putL {i idx ci fk : Nat} {dec : Bool} {ty : FieldType} {fs : (Nat → Int) → List Value} {v : Int} (hd : decode M.2.1 pc = .ok (.putfield idx, 3)) (F : FSite M.1.cls idx ci fk false dec ty) (hi : i < 101) (hs : ∀ g, sh i g = .inr (ci, fs g)) (hl : ∀ g, fk < (fs g).length) (hf : vfit ty (.long (lI v)) = true) (hv : ∀ g : Nat → Int, fs (fun b => if i = i ∧ b = fk then v else g b) = (fs g).set fk (.long (lI v)))
    (kk : RP M (pc + 3) L st (ug G i fk v) Post) : RP M pc L (.long (lI v) :: .ref i :: st) G Post := kk.step (fun o g h => r_putf hd F ((MM_at hi).trans (by rw [hs])) (hl _) hf (by rw [MM_su (v := v) hi (by rw [hs]; exact congrArg (fun z => Sum.inr (ci, z)) (hv (G i)))]; exact h))
/-! arrays of the memory -/
theorem vp_iI {j : Int} {jn len : Nat} (hj : j = jn) (hlt : jn < len) (hlen : len < 2147483648) : vp_in (iI j) len := by
  rw [hj, iI_nat]
  exact vp_in_nI hlt (by omega)
theorem cl_iI {j : Int} {jn len : Nat} (hj : j = jn) (hlt : jn < len) (hlen : len < 2147483648) : (iI j).toNatClampNeg = jn := by
  rw [hj, iI_nat]
  exact nI_clamp (by omega)
theorem k_iald {i len : Nat} {j : Int} (jn : Nat) (hd : decode M.2.1 pc = .ok (.iaload, 1)) (hi : i < 101) (hs : ∀ g, sh i g = shI len g) (hlen : len < 2147483648) (hj : j = jn) (hlt : jn < len)
    (kk : RP M (pc + 1) L (.int (iI (G i jn)) :: st) G Post) : RP M pc L (.int (iI j) :: .ref i :: st) G Post := kk.step (fun o g h => r_iald hd ((MM_at hi).trans (by rw [hs])) (vp_iI hj hlt hlen) (by rw [cl_iI hj hlt hlen]; exact h))
theorem k_zald {i len : Nat} {j : Int} (jn : Nat) (hd : decode M.2.1 pc = .ok (.baload, 1)) (hi : i < 101) (hs : ∀ g, sh i g = shZ len g) (hlen : len < 2147483648) (hj : j = jn) (hlt : jn < len)
    (kk : RP M (pc + 1) L (.int (iI (G i jn)) :: st) G Post) : RP M pc L (.int (iI j) :: .ref i :: st) G Post := kk.step (fun o g h => r_zald hd ((MM_at hi).trans (by rw [hs])) (vp_iI hj hlt hlen) (by rw [cl_iI hj hlt hlen]; exact h))
theorem k_iast {i len : Nat} {j v : Int} (jn : Nat) (hd : decode M.2.1 pc = .ok (.iastore, 1)) (hi : i < 101) (hs : ∀ g, sh i g = shI len g) (hlen : len < 2147483648) (hj : j = jn) (hlt : jn < len)
    (kk : RP M (pc + 1) L st (ug G i jn v) Post) : RP M pc L (.int (iI v) :: .int (iI j) :: .ref i :: st) G Post := kk.step (fun o g h => r_iast hd ((MM_at hi).trans (by rw [hs])) (vp_iI hj hlt hlen) (by
      rw [cl_iI hj hlt hlen, ia_up, MM_su (v := v) (j := jn) hi (by rw [hs])]
      exact h))
theorem k_zast {i len : Nat} {j v : Int} (jn : Nat) (hd : decode M.2.1 pc = .ok (.bastore, 1)) (hi : i < 101) (hs : ∀ g, sh i g = shZ len g) (hlen : len < 2147483648) (hj : j = jn) (hlt : jn < len) (hv : v = 0 ∨ v = 1)
    (kk : RP M (pc + 1) L st (ug G i jn v) Post) : RP M pc L (.int (iI v) :: .int (iI j) :: .ref i :: st) G Post := kk.step (fun o g h => r_zast hd ((MM_at hi).trans (by rw [hs])) (vp_iI hj hlt hlen) (by rcases hv with rfl | rfl <;> first | exact Or.inl rfl | exact Or.inr rfl) (by
      rw [cl_iI hj hlt hlen, ia_up, MM_su (v := v) (j := jn) hi (by rw [hs])]
      exact h))
/-- a stretch copied from cell a (from sp on) to cell b (from dp on) -/
def cg (G : Mem) (a sp b dp n : Nat) : Mem := fun x y => if x = b ∧ dp ≤ y ∧ y < dp + n then G a (sp + (y - dp)) else G x y
theorem MM_cp {G : Mem} {a b sp dp n len : Nat} {z : Bool} (hb : b < 101) (hs : ∀ g, sh b g = .inl (z, len, ia g)) : su (MM G) b (.inl (z, len, va_cpy (ia (G a)) (ia (G b)) sp dp n)) = MM (cg G a sp b dp n) := by
  funext x
  by_cases e : x = b
  · subst e
    rw [su_eq, MM_at hb, hs]
    congr 4
    funext y
    unfold va_cpy ia cg
    by_cases h : dp ≤ y ∧ y < dp + n
    · rw [if_pos h, if_pos ⟨rfl, h⟩]
    · rw [if_neg h, if_neg (fun q => h q.2)]
  · rw [su_ne e]
    unfold MM
    by_cases hx : x < 101
    · rw [if_pos hx, if_pos hx]
      congr 2
      funext y
      unfold cg
      rw [if_neg (fun q => e q.1)]
    · rw [if_neg hx, if_neg hx]
theorem k_copy {idx a b la lb : Nat} {z : Bool} {sp dp ct : Int} (s d c : Nat) (hd : decode M.2.1 pc = .ok (.invokestatic idx, 3)) (hs : CPSite M.1.cls idx) (ha : a < 101) (hb : b < 101) (hsa : ∀ g, sh a g = .inl (z, la, ia g)) (hsb : ∀ g, sh b g = .inl (z, lb, ia g))
    (h1 : sp = s) (h2 : dp = d) (h3 : ct = c) (h4 : s + c ≤ la) (h5 : d + c ≤ lb) (h6 : la < 2147483648 ∧ lb < 2147483648) (hfit : z = true → ∀ j, G a j = 0 ∨ G a j = 1) (hR : 1 ≤ M.2.2.2.2.frames ∧ 32 ≤ M.2.2.2.2.locals) (h8 : (st.map fun v => v.category).sum ≤ 8)
    (kk : RP M (pc + 3) L st (cg G a s b d c) Post) : RP M pc L (.int (iI ct) :: .int (iI dp) :: .ref b :: .int (iI sp) :: .ref a :: st) G Post := by
  have cl : ∀ {x : Int} {y : Nat}, x = y → y < 2147483648 → (iI x).toNatClampNeg = y := fun e h => by rw [e, iI_nat]; exact nI_clamp (by omega)
  have nn : ∀ {x : Int} {y : Nat}, x = y → y < 2147483648 → ¬ iI x < 0 := fun {x y} e h => by
    rw [e, ← iI_0, iI_lt ⟨by omega, by omega⟩ ⟨by omega, by omega⟩]; omega
  refine kk.step (fun o g h => r_copy hd hs ((MM_at ha).trans (by rw [hsa])) ((MM_at hb).trans (by rw [hsb])) (nn h1 (by omega)) (nn h2 (by omega)) (nn h3 (by omega)) ?_ ?_ ?_ hR h8 ?_)
  · rw [cl h1 (by omega), cl h3 (by omega)]; exact h4
  · rw [cl h2 (by omega), cl h3 (by omega)]; exact h5
  · intro hz j _
    rcases hfit hz j with q | q
    · left; show iI _ = 0; rw [q]; rfl
    · right; show iI _ = 1; rw [q]; rfl
  · rw [cl h1 (by omega), cl h2 (by omega), cl h3 (by omega), MM_cp hb hsb]
    exact h
/-! ends -/
theorem k_ret (hd : decode M.2.1 pc = .ok (.return_, 1)) (hr0 : M.2.2.2.1 = none) (hp : Post none G) : RP M pc L [] G Post := ⟨none, G, hp, r_ret hd hr0 (Nat.zero_le _) (Nat.zero_le _)⟩
theorem k_iret {x : Int} (hd : decode M.2.1 pc = .ok (.ireturn, 1)) (hr0 : M.2.2.2.1 = some .int) (hp : Post (some (.int (iI x))) G) : RP M pc L [.int (iI x)] G Post := ⟨_, G, hp, r_iret hd hr0 rfl (Nat.zero_le _) (Nat.zero_le _)⟩
theorem k_zret {x : Int} (hd : decode M.2.1 pc = .ok (.ireturn, 1)) (hr0 : M.2.2.2.1 = some .boolean) (hx : x = 0 ∨ x = 1) (hp : Post (some (.int (iI x))) G) : RP M pc L [.int (iI x)] G Post := ⟨_, G, hp, r_iret hd hr0 (by rcases hx with rfl | rfl <;> rfl) (Nat.zero_le _) (Nat.zero_le _)⟩
theorem k_lret {x : Int} (hd : decode M.2.1 pc = .ok (.lreturn, 1)) (hr0 : M.2.2.2.1 = some .long) (hp : Post (some (.long (lI x))) G) : RP M pc L [.long (lI x)] G Post := ⟨_, G, hp, r_lret hd hr0 (Nat.zero_le _) (Nat.zero_le _)⟩
theorem k_aret {a : Nat} {cn : String} (hd : decode M.2.1 pc = .ok (.areturn, 1)) (hr0 : M.2.2.2.1 = some (.object cn)) (hp : Post (some (.ref a)) G) : RP M pc L [.ref a] G Post := ⟨_, G, hp, r_aret hd hr0 (Nat.zero_le _) (Nat.zero_le _)⟩
/-! calls: what the callee's end says is what the caller goes on with -/
theorem k_callSi {M' : MI} {idx nA : Nat} {rest : List Value} {Q : Int → Mem → Prop} (as : List Value) (hd : decode M.2.1 pc = .ok (.invokestatic idx, 3)) (hs : SiteS M M' idx nA 0 0) (hst : st = as.reverse ++ rest) (hm : MP M' (as) G (vi Q)) (hn : as.length = nA)  (h8 : (rest.map fun v => v.category).sum ≤ 8)
    (kk : ∀ v G1, Q v G1 → RP M (pc + 3) L (.int (iI v) :: rest) G1 Post) : RP M pc L st G Post := by
  obtain ⟨o1, G1, ⟨v, rfl, hq⟩, h2⟩ := hm
  obtain ⟨o, g, h1, h3⟩ := kk v G1 hq
  exact ⟨o, g, h1, r_callS hd hs h2 hst hn h8 (Or.inl rfl) ⟨Nat.zero_le _, Nat.zero_le _⟩ h3⟩
theorem k_callSl {M' : MI} {idx nA : Nat} {rest : List Value} {Q : Int → Mem → Prop} (as : List Value) (hd : decode M.2.1 pc = .ok (.invokestatic idx, 3)) (hs : SiteS M M' idx nA 0 0) (hst : st = as.reverse ++ rest) (hm : MP M' (as) G (vl Q)) (hn : as.length = nA)  (h8 : (rest.map fun v => v.category).sum ≤ 8)
    (kk : ∀ v G1, Q v G1 → RP M (pc + 3) L (.long (lI v) :: rest) G1 Post) : RP M pc L st G Post := by
  obtain ⟨o1, G1, ⟨v, rfl, hq⟩, h2⟩ := hm
  obtain ⟨o, g, h1, h3⟩ := kk v G1 hq
  exact ⟨o, g, h1, r_callS hd hs h2 hst hn h8 (Or.inl rfl) ⟨Nat.zero_le _, Nat.zero_le _⟩ h3⟩
theorem k_callSa {M' : MI} {idx nA : Nat} {rest : List Value} {Q : Nat → Mem → Prop} (as : List Value) (hd : decode M.2.1 pc = .ok (.invokestatic idx, 3)) (hs : SiteS M M' idx nA 0 0) (hst : st = as.reverse ++ rest) (hm : MP M' (as) G (vr Q)) (hn : as.length = nA)  (h8 : (rest.map fun v => v.category).sum ≤ 8)
    (kk : ∀ v G1, Q v G1 → RP M (pc + 3) L (.ref v :: rest) G1 Post) : RP M pc L st G Post := by
  obtain ⟨o1, G1, ⟨v, rfl, hq⟩, h2⟩ := hm
  obtain ⟨o, g, h1, h3⟩ := kk v G1 hq
  exact ⟨o, g, h1, r_callS hd hs h2 hst hn h8 (Or.inl rfl) ⟨Nat.zero_le _, Nat.zero_le _⟩ h3⟩
theorem k_callSv {M' : MI} {idx nA : Nat} {rest : List Value} {Q : Mem → Prop} (as : List Value) (hd : decode M.2.1 pc = .ok (.invokestatic idx, 3)) (hs : SiteS M M' idx nA 0 0) (hst : st = as.reverse ++ rest) (hm : MP M' (as) G (vv Q)) (hn : as.length = nA)  (h8 : (rest.map fun v => v.category).sum ≤ 8)
    (kk : ∀ G1, Q G1 → RP M (pc + 3) L rest G1 Post) : RP M pc L st G Post := by
  obtain ⟨o1, G1, ⟨rfl, hq⟩, h2⟩ := hm
  obtain ⟨o, g, h1, h3⟩ := kk G1 hq
  exact ⟨o, g, h1, r_callS hd hs h2 hst hn h8 (Or.inl rfl) ⟨Nat.zero_le _, Nat.zero_le _⟩ h3⟩
theorem k_callVi {M' : MI} {idx nA : Nat} {rest : List Value} {b ci : Nat} {fs : (Nat → Int) → List Value} {Q : Int → Mem → Prop} (as : List Value) (hd : decode M.2.1 pc = .ok (.invokevirtual idx, 3)) (hs : SiteV M M' idx nA 0 0) (hst : st = as.reverse ++ .ref b :: rest) (hm : MP M' (.ref b :: as) G (vi Q)) (hn : as.length = nA) (hb : b < 101) (hb9 : ∀ g, sh b g = .inr (ci, fs g)) (hci : ∃ q, vwCl[ci]? = some q ∧ q.1 = M'.1.cls) (h8 : (rest.map fun v => v.category).sum ≤ 8)
    (kk : ∀ v G1, Q v G1 → RP M (pc + 3) L (.int (iI v) :: rest) G1 Post) : RP M pc L st G Post := by
  obtain ⟨o1, G1, ⟨v, rfl, hq⟩, h2⟩ := hm
  obtain ⟨o, g, h1, h3⟩ := kk v G1 hq
  exact ⟨o, g, h1, r_callV hd hs h2 hst hn ((MM_at hb).trans (by rw [hb9])) hci h8 (Or.inl rfl) ⟨Nat.zero_le _, Nat.zero_le _⟩ h3⟩
theorem k_callVl {M' : MI} {idx nA : Nat} {rest : List Value} {b ci : Nat} {fs : (Nat → Int) → List Value} {Q : Int → Mem → Prop} (as : List Value) (hd : decode M.2.1 pc = .ok (.invokevirtual idx, 3)) (hs : SiteV M M' idx nA 0 0) (hst : st = as.reverse ++ .ref b :: rest) (hm : MP M' (.ref b :: as) G (vl Q)) (hn : as.length = nA) (hb : b < 101) (hb9 : ∀ g, sh b g = .inr (ci, fs g)) (hci : ∃ q, vwCl[ci]? = some q ∧ q.1 = M'.1.cls) (h8 : (rest.map fun v => v.category).sum ≤ 8)
    (kk : ∀ v G1, Q v G1 → RP M (pc + 3) L (.long (lI v) :: rest) G1 Post) : RP M pc L st G Post := by
  obtain ⟨o1, G1, ⟨v, rfl, hq⟩, h2⟩ := hm
  obtain ⟨o, g, h1, h3⟩ := kk v G1 hq
  exact ⟨o, g, h1, r_callV hd hs h2 hst hn ((MM_at hb).trans (by rw [hb9])) hci h8 (Or.inl rfl) ⟨Nat.zero_le _, Nat.zero_le _⟩ h3⟩
theorem k_callVa {M' : MI} {idx nA : Nat} {rest : List Value} {b ci : Nat} {fs : (Nat → Int) → List Value} {Q : Nat → Mem → Prop} (as : List Value) (hd : decode M.2.1 pc = .ok (.invokevirtual idx, 3)) (hs : SiteV M M' idx nA 0 0) (hst : st = as.reverse ++ .ref b :: rest) (hm : MP M' (.ref b :: as) G (vr Q)) (hn : as.length = nA) (hb : b < 101) (hb9 : ∀ g, sh b g = .inr (ci, fs g)) (hci : ∃ q, vwCl[ci]? = some q ∧ q.1 = M'.1.cls) (h8 : (rest.map fun v => v.category).sum ≤ 8)
    (kk : ∀ v G1, Q v G1 → RP M (pc + 3) L (.ref v :: rest) G1 Post) : RP M pc L st G Post := by
  obtain ⟨o1, G1, ⟨v, rfl, hq⟩, h2⟩ := hm
  obtain ⟨o, g, h1, h3⟩ := kk v G1 hq
  exact ⟨o, g, h1, r_callV hd hs h2 hst hn ((MM_at hb).trans (by rw [hb9])) hci h8 (Or.inl rfl) ⟨Nat.zero_le _, Nat.zero_le _⟩ h3⟩
theorem k_callVv {M' : MI} {idx nA : Nat} {rest : List Value} {b ci : Nat} {fs : (Nat → Int) → List Value} {Q : Mem → Prop} (as : List Value) (hd : decode M.2.1 pc = .ok (.invokevirtual idx, 3)) (hs : SiteV M M' idx nA 0 0) (hst : st = as.reverse ++ .ref b :: rest) (hm : MP M' (.ref b :: as) G (vv Q)) (hn : as.length = nA) (hb : b < 101) (hb9 : ∀ g, sh b g = .inr (ci, fs g)) (hci : ∃ q, vwCl[ci]? = some q ∧ q.1 = M'.1.cls) (h8 : (rest.map fun v => v.category).sum ≤ 8)
    (kk : ∀ G1, Q G1 → RP M (pc + 3) L rest G1 Post) : RP M pc L st G Post := by
  obtain ⟨o1, G1, ⟨rfl, hq⟩, h2⟩ := hm
  obtain ⟨o, g, h1, h3⟩ := kk G1 hq
  exact ⟨o, g, h1, r_callV hd hs h2 hst hn ((MM_at hb).trans (by rw [hb9])) hci h8 (Or.inl rfl) ⟨Nat.zero_le _, Nat.zero_le _⟩ h3⟩
theorem k_callUi {M' : MI} {idx nA : Nat} {rest : List Value} {b ci : Nat} {fs : (Nat → Int) → List Value} {CC owner : String} {x : MethodName} {Q : Int → Mem → Prop} (as : List Value) (hd : decode M.2.1 pc = .ok (.invokevirtual idx, 3)) (hs : SiteU M M' idx nA 0 0 CC owner x) (hst : st = as.reverse ++ .ref b :: rest) (hm : MP M' (.ref b :: as) G (vi Q)) (hn : as.length = nA) (hb : b < 101) (hb9 : ∀ g, sh b g = .inr (ci, fs g)) (hci : ∃ q, vwCl[ci]? = some q ∧ q.1 = CC) (h8 : (rest.map fun v => v.category).sum ≤ 8)
    (kk : ∀ v G1, Q v G1 → RP M (pc + 3) L (.int (iI v) :: rest) G1 Post) : RP M pc L st G Post := by
  obtain ⟨o1, G1, ⟨v, rfl, hq⟩, h2⟩ := hm
  obtain ⟨o, g, h1, h3⟩ := kk v G1 hq
  exact ⟨o, g, h1, r_callU hd hs h2 hst hn ((MM_at hb).trans (by rw [hb9])) hci h8 (Or.inl rfl) ⟨Nat.zero_le _, Nat.zero_le _⟩ h3⟩
theorem k_callUv {M' : MI} {idx nA : Nat} {rest : List Value} {b ci : Nat} {fs : (Nat → Int) → List Value} {CC owner : String} {x : MethodName} {Q : Mem → Prop} (as : List Value) (hd : decode M.2.1 pc = .ok (.invokevirtual idx, 3)) (hs : SiteU M M' idx nA 0 0 CC owner x) (hst : st = as.reverse ++ .ref b :: rest) (hm : MP M' (.ref b :: as) G (vv Q)) (hn : as.length = nA) (hb : b < 101) (hb9 : ∀ g, sh b g = .inr (ci, fs g)) (hci : ∃ q, vwCl[ci]? = some q ∧ q.1 = CC) (h8 : (rest.map fun v => v.category).sum ≤ 8)
    (kk : ∀ G1, Q G1 → RP M (pc + 3) L rest G1 Post) : RP M pc L st G Post := by
  obtain ⟨o1, G1, ⟨rfl, hq⟩, h2⟩ := hm
  obtain ⟨o, g, h1, h3⟩ := kk G1 hq
  exact ⟨o, g, h1, r_callU hd hs h2 hst hn ((MM_at hb).trans (by rw [hb9])) hci h8 (Or.inl rfl) ⟨Nat.zero_le _, Nat.zero_le _⟩ h3⟩
theorem k_callSUi {M' : MI} {idx nA : Nat} {rest : List Value} {b ci : Nat} {fs : (Nat → Int) → List Value} {Q : Int → Mem → Prop} (as : List Value) (hd : decode M.2.1 pc = .ok (.invokespecial idx, 3)) (hs : SiteSU M M' idx nA 0 0) (hst : st = as.reverse ++ .ref b :: rest) (hm : MP M' (.ref b :: as) G (vi Q)) (hn : as.length = nA) (hb : b < 101) (hb9 : ∀ g, sh b g = .inr (ci, fs g)) (hci : ∃ q, vwCl[ci]? = some q) (h8 : (rest.map fun v => v.category).sum ≤ 8)
    (kk : ∀ v G1, Q v G1 → RP M (pc + 3) L (.int (iI v) :: rest) G1 Post) : RP M pc L st G Post := by
  obtain ⟨o1, G1, ⟨v, rfl, hq⟩, h2⟩ := hm
  obtain ⟨o, g, h1, h3⟩ := kk v G1 hq
  exact ⟨o, g, h1, r_callSU hd hs h2 hst hn ((MM_at hb).trans (by rw [hb9])) hci h8 (Or.inl rfl) ⟨Nat.zero_le _, Nat.zero_le _⟩ h3⟩
theorem k_callSUv {M' : MI} {idx nA : Nat} {rest : List Value} {b ci : Nat} {fs : (Nat → Int) → List Value} {Q : Mem → Prop} (as : List Value) (hd : decode M.2.1 pc = .ok (.invokespecial idx, 3)) (hs : SiteSU M M' idx nA 0 0) (hst : st = as.reverse ++ .ref b :: rest) (hm : MP M' (.ref b :: as) G (vv Q)) (hn : as.length = nA) (hb : b < 101) (hb9 : ∀ g, sh b g = .inr (ci, fs g)) (hci : ∃ q, vwCl[ci]? = some q) (h8 : (rest.map fun v => v.category).sum ≤ 8)
    (kk : ∀ G1, Q G1 → RP M (pc + 3) L rest G1 Post) : RP M pc L st G Post := by
  obtain ⟨o1, G1, ⟨rfl, hq⟩, h2⟩ := hm
  obtain ⟨o, g, h1, h3⟩ := kk G1 hq
  exact ⟨o, g, h1, r_callSU hd hs h2 hst hn ((MM_at hb).trans (by rw [hb9])) hci h8 (Or.inl rfl) ⟨Nat.zero_le _, Nat.zero_le _⟩ h3⟩
theorem k_callSXi {M' : MI} {idx nA : Nat} {rest : List Value} {b ci : Nat} {fs : (Nat → Int) → List Value} {owner : String} {x : MethodName} {Q : Int → Mem → Prop} (as : List Value) (hd : decode M.2.1 pc = .ok (.invokespecial idx, 3)) (hs : SiteSX M M' idx nA 0 0 owner x) (hst : st = as.reverse ++ .ref b :: rest) (hm : MP M' (.ref b :: as) G (vi Q)) (hn : as.length = nA) (hb : b < 101) (hb9 : ∀ g, sh b g = .inr (ci, fs g)) (hci : ∃ q, vwCl[ci]? = some q) (h8 : (rest.map fun v => v.category).sum ≤ 8)
    (kk : ∀ v G1, Q v G1 → RP M (pc + 3) L (.int (iI v) :: rest) G1 Post) : RP M pc L st G Post := by
  obtain ⟨o1, G1, ⟨v, rfl, hq⟩, h2⟩ := hm
  obtain ⟨o, g, h1, h3⟩ := kk v G1 hq
  exact ⟨o, g, h1, r_callSX hd hs h2 hst hn ((MM_at hb).trans (by rw [hb9])) hci h8 (Or.inl rfl) ⟨Nat.zero_le _, Nat.zero_le _⟩ h3⟩
theorem k_callSXv {M' : MI} {idx nA : Nat} {rest : List Value} {b ci : Nat} {fs : (Nat → Int) → List Value} {owner : String} {x : MethodName} {Q : Mem → Prop} (as : List Value) (hd : decode M.2.1 pc = .ok (.invokespecial idx, 3)) (hs : SiteSX M M' idx nA 0 0 owner x) (hst : st = as.reverse ++ .ref b :: rest) (hm : MP M' (.ref b :: as) G (vv Q)) (hn : as.length = nA) (hb : b < 101) (hb9 : ∀ g, sh b g = .inr (ci, fs g)) (hci : ∃ q, vwCl[ci]? = some q) (h8 : (rest.map fun v => v.category).sum ≤ 8)
    (kk : ∀ G1, Q G1 → RP M (pc + 3) L rest G1 Post) : RP M pc L st G Post := by
  obtain ⟨o1, G1, ⟨rfl, hq⟩, h2⟩ := hm
  obtain ⟨o, g, h1, h3⟩ := kk G1 hq
  exact ⟨o, g, h1, r_callSX hd hs h2 hst hn ((MM_at hb).trans (by rw [hb9])) hci h8 (Or.inl rfl) ⟨Nat.zero_le _, Nat.zero_le _⟩ h3⟩
end KROWS
