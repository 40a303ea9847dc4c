/-! ===== what holds between the calls of the law ===== -/
def C2 (G : Mem) : Prop := Rok (rv G 14) ∧ q_ok (G (55 + 7)) (G (55 + 8)) ∧ q_ok (G (65 + 7)) (G (65 + 8)) ∧ q_ok (G (76 + 7)) (G (76 + 8)) ∧ ∀ j, 0 ≤ G 74 j ∧ G 74 j ≤ 61
def C1 (G : Mem) : Prop := Rok (rv G 1) ∧ Rok (rv G 27) ∧ Rok (rv G 40) ∧ Tok G ∧ ((G 0 4 = 0 ∨ G 0 4 = 1) ∧ (G 0 5 = 0 ∨ G 0 5 = 1)) ∧ (0 ≤ G 0 10 ∧ G 0 10 ≤ 5000) ∧ (0 ≤ G 0 11 ∧ G 0 11 ≤ 5000)
def M2 (G : Mem) : Prop := (G 89 0 = G 0 4 ∧ G 89 1 = G 0 5 ∧ ∀ j, G 89 j = 0 ∨ G 89 j = 1) ∧ (G 0 4 = 1 → MV (rv G 27) (G 88)) ∧ (G 0 5 = 1 → MV (rv G 40) (fun y => G 88 (170 + y)))
def M3 (G : Mem) : Prop := G 90 0 = G 0 12 ∧ G 90 1 = G 0 13 ∧ G 90 2 = G 0 14
def M4 (G : Mem) : Prop := G 86 4 = G 0 10 ∧ G 86 5 = G 0 11
def M5 (G : Mem) : Prop := G 86 15 = G 53 1 ∧ ∀ j : Nat, (j : Int) < G 53 1 → G 98 j = G 54 j
def Rel (G : Mem) : Prop := C1 G ∧ C2 G ∧ MV (rv G 1) (G 87) ∧ M2 G ∧ M3 G ∧ M4 G ∧ M5 G
theorem veq_of {G g : Mem} {r : Nat} (h : ∀ a b, r ≤ a → a ≤ r + 12 → g a b = G a b) : Veq (rv G r) (rv g r) := fun a b ha => (h (r + a) b (by omega) (by omega)).symm
theorem C2.c {G g : Mem} (h : C2 G) (e : ∀ a b, (14 ≤ a ∧ a ≤ 26) ∨ (62 ≤ a ∧ a ≤ 85) → g a b = G a b) : C2 g := by
  obtain ⟨h1, h2, h3, h4, h5⟩ := h
  refine ⟨h1.c (veq_of (fun a b x y => e a b (by omega))), ?_, ?_, ?_, ?_⟩
  · have e1 : ∀ b, g (55 + 7) b = G (55 + 7) b := fun b => e 62 b (by omega)
    have e2 : ∀ b, g (55 + 8) b = G (55 + 8) b := fun b => e 63 b (by omega)
    intro j; rw [e1, e2]; exact h2 j
  · have e1 : ∀ b, g (65 + 7) b = G (65 + 7) b := fun b => e 72 b (by omega)
    have e2 : ∀ b, g (65 + 8) b = G (65 + 8) b := fun b => e 73 b (by omega)
    intro j; rw [e1, e2]; exact h3 j
  · have e1 : ∀ b, g (76 + 7) b = G (76 + 7) b := fun b => e 83 b (by omega)
    have e2 : ∀ b, g (76 + 8) b = G (76 + 8) b := fun b => e 84 b (by omega)
    intro j; rw [e1, e2]; exact h4 j
  · intro j; rw [e 74 j (by omega)]; exact h5 j
theorem C2.li {G g : Mem} {l : Nat} (hl : l = 55 ∨ l = 65 ∨ l = 76) (h : C2 G) (k : LI l G g) : C2 g := by
  obtain ⟨h1, h2, h3, h4, h5⟩ := h
  obtain ⟨k1, k2⟩ := k
  have n2 : ∀ l', (l' = 55 ∨ l' = 65 ∨ l' = 76) → l' ≠ l → q_ok (G (l' + 7)) (G (l' + 8)) → q_ok (g (l' + 7)) (g (l' + 8)) := fun l' hl' hne q j => by
    rw [k1 (l' + 7) j (by omega) (by omega), k1 (l' + 8) j (by omega) (by omega)]
    exact q j
  refine ⟨h1.c (veq_of (fun a b x y => k1 a b (by omega) (by omega))), ?_, ?_, ?_, fun j => by rw [k1 74 j (by omega) (by omega)]; exact h5 j⟩
  · by_cases e : l = 55
    · subst e; exact k2
    · exact n2 55 (by decide) (fun q => e q.symm) h2
  · by_cases e : l = 65
    · subst e; exact k2
    · exact n2 65 (by decide) (fun q => e q.symm) h3
  · by_cases e : l = 76
    · subst e; exact k2
    · exact n2 76 (by decide) (fun q => e q.symm) h4
theorem C2.ei {G g : Mem} (h : C2 G) (k : EI G g) : C2 g := by
  obtain ⟨h1, h2, h3, h4, h5⟩ := h
  obtain ⟨k1, k2, k3⟩ := k
  refine ⟨h1.c (veq_of (fun a b x y => k1 a b (by omega) (by omega) (by omega))), fun j => ?_, k2, fun j => ?_, k3⟩
  · rw [k1 (55 + 7) j (by decide) (by decide) (by decide), k1 (55 + 8) j (by decide) (by decide) (by decide)]; exact h2 j
  · rw [k1 (76 + 7) j (by decide) (by decide) (by decide), k1 (76 + 8) j (by decide) (by decide) (by decide)]; exact h4 j
theorem C2.fi {G g : Mem} (h : C2 G) (k : FI G g) : C2 g := by
  obtain ⟨h1, h2, h3, h4, h5⟩ := h
  obtain ⟨k1, k2⟩ := k
  refine ⟨h1.c (veq_of (fun a b x y => k1 a b (by omega) (by omega) (by omega))), fun j => ?_, fun j => ?_, k2, fun j => by rw [k1 74 j (by decide) (by decide) (by decide)]; exact h5 j⟩
  · rw [k1 (55 + 7) j (by decide) (by decide) (by decide), k1 (55 + 8) j (by decide) (by decide) (by decide)]; exact h2 j
  · rw [k1 (65 + 7) j (by decide) (by decide) (by decide), k1 (65 + 8) j (by decide) (by decide) (by decide)]; exact h3 j
theorem C1.c {G g : Mem} (h : C1 G) (e : ∀ a b, (a ≤ 13 ∨ (27 ≤ a ∧ a ≤ 54)) → ¬ (a = 0 ∧ 12 ≤ b) → g a b = G a b) : C1 g := by
  obtain ⟨h1, h2, h3, h4, h5, h6, h7⟩ := h
  refine ⟨h1.c (veq_of (fun a b x y => e a b (by omega) (by omega))), h2.c (veq_of (fun a b x y => e a b (by omega) (by omega))), h3.c (veq_of (fun a b x y => e a b (by omega) (by omega))), h4.of (e 53 1 (by omega) (by omega)) (fun j => e 54 j (by omega) (by omega)), ?_, ?_, ?_⟩
  · rw [e 0 4 (by omega) (by omega), e 0 5 (by omega) (by omega)]; exact h5
  · rw [e 0 10 (by omega) (by omega)]; exact h6
  · rw [e 0 11 (by omega) (by omega)]; exact h7
theorem M1.c {G g : Mem} (hr : Rok (rv G 1)) (h : MV (rv G 1) (G 87)) (e : ∀ a b, 1 ≤ a ∧ a ≤ 13 → g a b = G a b) (e2 : ∀ b, g 87 b = G 87 b) : MV (rv g 1) (g 87) := h.c hr (veq_of (fun a b x y => e a b (by omega))) (fun y _ => e2 y)
theorem M2.c {G g : Mem} (hr1 : Rok (rv G 27)) (hr2 : Rok (rv G 40)) (h : M2 G) (e : ∀ a b, (27 ≤ a ∧ a ≤ 52) ∨ (a = 0 ∧ (b = 4 ∨ b = 5)) ∨ a = 88 ∨ a = 89 → g a b = G a b) : M2 g := by
  obtain ⟨⟨a1, a2, a3⟩, h1, h2⟩ := h
  refine ⟨⟨?_, ?_, fun j => ?_⟩, fun q => ?_, fun q => ?_⟩
  · rw [e 89 0 (by omega), e 0 4 (by omega)]; exact a1
  · rw [e 89 1 (by omega), e 0 5 (by omega)]; exact a2
  · rw [e 89 j (by omega)]; exact a3 j
  · rw [e 0 4 (by omega)] at q
    exact (h1 q).c hr1 (veq_of (fun a b x y => e a b (by omega))) (fun y _ => e 88 y (by omega))
  · rw [e 0 5 (by omega)] at q
    exact (h2 q).c hr2 (veq_of (fun a b x y => e a b (by omega))) (fun y _ => e 88 (170 + y) (by omega))
theorem M3.c {G g : Mem} (h : M3 G) (e : ∀ a b, (a = 90 ∧ b ≤ 2) ∨ (a = 0 ∧ 12 ≤ b ∧ b ≤ 14) → g a b = G a b) : M3 g := by
  unfold M3
  rw [e 90 0 (by omega), e 90 1 (by omega), e 90 2 (by omega), e 0 12 (by omega), e 0 13 (by omega), e 0 14 (by omega)]
  exact h
theorem M4.c {G g : Mem} (h : M4 G) (e : ∀ a b, (a = 86 ∧ (b = 4 ∨ b = 5)) ∨ (a = 0 ∧ (b = 10 ∨ b = 11)) → g a b = G a b) : M4 g := by
  unfold M4
  rw [e 86 4 (by omega), e 86 5 (by omega), e 0 10 (by omega), e 0 11 (by omega)]
  exact h
theorem M5.c {G g : Mem} (h : M5 G) (e : ∀ a b, (a = 86 ∧ b = 15) ∨ (a = 53 ∧ b = 1) ∨ a = 54 ∨ a = 98 → g a b = G a b) : M5 g := by
  unfold M5
  rw [e 86 15 (by omega), e 53 1 (by omega)]
  exact ⟨h.1, fun j hj => by rw [e 98 j (by omega), e 54 j (by omega)]; exact h.2 j hj⟩
/-- only the road that is now has changed, and scratch -/
theorem Rel.now {G k : Mem} (h : Rel G) (h2 : C2 k) (h1 : Rok (rv k 1)) (hm : MV (rv k 1) (k 87)) (e : ∀ a b, ¬ (1 ≤ a ∧ a ≤ 26) → ¬ (62 ≤ a ∧ a ≤ 85) → a ≠ 87 → ¬ (a = 86 ∧ (b = 8 ∨ (16 ≤ b ∧ b ≤ 19))) → ¬ (91 ≤ a ∧ a ≠ 98) → ¬ (a = 53 ∧ b = 2) → k a b = G a b) : Rel k := by
  obtain ⟨⟨_, r27, r40, ht, hf, ha, hb⟩, _, _, m2, m3, m4, m5⟩ := h
  refine ⟨⟨h1, r27.c (veq_of (fun a b x y => e a b (by omega) (by omega) (by omega) (by omega) (by omega) (by omega))), r40.c (veq_of (fun a b x y => e a b (by omega) (by omega) (by omega) (by omega) (by omega) (by omega))), ht.of (e 53 1 (by omega) (by omega) (by omega) (by omega) (by omega) (by omega)) (fun j => e 54 j (by omega) (by omega) (by omega) (by omega) (by omega) (by omega)), ?_, ?_, ?_⟩, h2, hm, m2.c r27 r40 (fun a b x => e a b (by omega) (by omega) (by omega) (by omega) (by omega) (by omega)), m3.c (fun a b x => e a b (by omega) (by omega) (by omega) (by omega) (by omega) (by omega)), m4.c (fun a b x => e a b (by omega) (by omega) (by omega) (by omega) (by omega) (by omega)), m5.c (fun a b x => e a b (by omega) (by omega) (by omega) (by omega) (by omega) (by omega))⟩
  · rw [e 0 4 (by omega) (by omega) (by omega) (by omega) (by omega) (by omega), e 0 5 (by omega) (by omega) (by omega) (by omega) (by omega) (by omega)]; exact hf
  · rw [e 0 10 (by omega) (by omega) (by omega) (by omega) (by omega) (by omega)]; exact ha
  · rw [e 0 11 (by omega) (by omega) (by omega) (by omega) (by omega) (by omega)]; exact hb
/-- only scratch has changed -/
theorem Rel.q {G g k : Mem} (h : Rel G) (hg : ∀ a b, ¬ (14 ≤ a ∧ a ≤ 26) → ¬ (62 ≤ a ∧ a ≤ 85) → g a b = G a b) (h2 : C2 g) (hk : SC g k) : Rel k := by
  have e : ∀ a b, ¬ (14 ≤ a ∧ a ≤ 26) → ¬ (62 ≤ a ∧ a ≤ 85) → (a < 91 ∨ a = 98) → ¬ (a = 86 ∧ (b = 8 ∨ (16 ≤ b ∧ b ≤ 19))) → k a b = G a b := fun a b x y z w => (hk a b z w).trans (hg a b x y)
  refine h.now (h2.c (fun a b x => hk a b (by omega) (by omega))) (h.1.1.c (veq_of (fun a b x y => e a b (by omega) (by omega) (by omega) (by omega)))) (M1.c h.1.1 h.2.2.1 (fun a b x => e a b (by omega) (by omega) (by omega) (by omega)) (fun b => e 87 b (by omega) (by omega) (by omega) (by omega))) (fun a b x y z w u v => e a b (by omega) (by omega) (by omega) (by omega))
theorem Rel.bad {G : Mem} (h : Rel G) : Rel (xB (rB G)) := by
  have e : ∀ a b, ¬ (a = 0 ∧ b = 12) → ¬ (a = 90 ∧ b = 0) → xB (rB G) a b = G a b := fun a b p q => by
    unfold xB rB
    rw [ug_ne q, ug_ne p]
  have e1 : xB (rB G) 90 0 = xB (rB G) 0 12 := by
    unfold xB rB
    rw [ug_at, ug_nc (by decide), ug_nc (by decide), ug_at]
    have := h.2.2.2.2.1
    unfold M3 at this
    omega
  obtain ⟨c1, c2, m1, m2, m3, m4, m5⟩ := h
  refine ⟨c1.c (fun a b x y => e a b (by omega) (by omega)), c2.c (fun a b x => e a b (by omega) (by omega)), M1.c c1.1 m1 (fun a b x => e a b (by omega) (by omega)) (fun b => e 87 b (by omega) (by omega)), m2.c c1.2.1 c1.2.2.1 (fun a b x => e a b (by omega) (by omega)), ?_, m4.c (fun a b x => e a b (by omega) (by omega)), m5.c (fun a b x => e a b (by omega) (by omega))⟩
  unfold M3 at m3 ⊢
  refine ⟨?_, ?_, ?_⟩
  · exact e1
  · rw [e 90 1 (by omega) (by omega), e 0 13 (by omega) (by omega)]; exact m3.2.1
  · rw [e 90 2 (by omega) (by omega), e 0 14 (by omega) (by omega)]; exact m3.2.2
theorem Rel.no {G : Mem} (h : Rel G) : Rel (xN (rN G)) := by
  have e : ∀ a b, ¬ (a = 0 ∧ b = 13) → ¬ (a = 90 ∧ b = 1) → xN (rN G) a b = G a b := fun a b p q => by
    unfold xN rN
    rw [ug_ne q, ug_ne p]
  have e1 : xN (rN G) 90 1 = xN (rN G) 0 13 := by
    unfold xN rN
    rw [ug_at, ug_nc (by decide), ug_nc (by decide), ug_at]
    have := h.2.2.2.2.1
    unfold M3 at this
    omega
  obtain ⟨c1, c2, m1, m2, m3, m4, m5⟩ := h
  refine ⟨c1.c (fun a b x y => e a b (by omega) (by omega)), c2.c (fun a b x => e a b (by omega) (by omega)), M1.c c1.1 m1 (fun a b x => e a b (by omega) (by omega)) (fun b => e 87 b (by omega) (by omega)), m2.c c1.2.1 c1.2.2.1 (fun a b x => e a b (by omega) (by omega)), ?_, m4.c (fun a b x => e a b (by omega) (by omega)), m5.c (fun a b x => e a b (by omega) (by omega))⟩
  unfold M3 at m3 ⊢
  refine ⟨?_, ?_, ?_⟩
  · rw [e 90 0 (by omega) (by omega), e 0 12 (by omega) (by omega)]; exact m3.1
  · exact e1
  · rw [e 90 2 (by omega) (by omega), e 0 14 (by omega) (by omega)]; exact m3.2.2
theorem Rel.full {G : Mem} (h : Rel G) : Rel (xF (rF G)) := by
  have e : ∀ a b, ¬ (a = 0 ∧ b = 14) → ¬ (a = 90 ∧ b = 2) → xF (rF G) a b = G a b := fun a b p q => by
    unfold xF rF
    rw [ug_ne q, ug_ne p]
  have e1 : xF (rF G) 90 2 = xF (rF G) 0 14 := by
    unfold xF rF
    rw [ug_at, ug_nc (by decide), ug_nc (by decide), ug_at]
    have := h.2.2.2.2.1
    unfold M3 at this
    omega
  obtain ⟨c1, c2, m1, m2, m3, m4, m5⟩ := h
  refine ⟨c1.c (fun a b x y => e a b (by omega) (by omega)), c2.c (fun a b x => e a b (by omega) (by omega)), M1.c c1.1 m1 (fun a b x => e a b (by omega) (by omega)) (fun b => e 87 b (by omega) (by omega)), m2.c c1.2.1 c1.2.2.1 (fun a b x => e a b (by omega) (by omega)), ?_, m4.c (fun a b x => e a b (by omega) (by omega)), m5.c (fun a b x => e a b (by omega) (by omega))⟩
  unfold M3 at m3 ⊢
  refine ⟨?_, ?_, ?_⟩
  · rw [e 90 0 (by omega) (by omega), e 0 12 (by omega) (by omega)]; exact m3.1
  · rw [e 90 1 (by omega) (by omega), e 0 13 (by omega) (by omega)]; exact m3.2.1
  · exact e1
/-! a call of the class, then the same of the Model -/
def Cs (Mc Mm : MI) (as : List Value) (G : Mem) : Prop := ∃ (v : Int) (g k : Mem), Mt Mc (.ref 0 :: as) 101 (MM G) (some (.int (iI v))) 101 (MM g) ∧ Mt Mm (.ref 86 :: as) 101 (MM g) (some (.int (iI v))) 101 (MM k) ∧ Rel k
def CsL (Mc Mm : MI) (as : List Value) (G : Mem) : Prop := ∃ (v : Int) (g k : Mem), Mt Mc (.ref 0 :: as) 101 (MM G) (some (.long (lI v))) 101 (MM g) ∧ Mt Mm (.ref 86 :: as) 101 (MM g) (some (.long (lI v))) 101 (MM k) ∧ Rel k
theorem Cs.mk {Mc Mm : MI} {as : List Value} {G : Mem} {Pc : Int → Mem → Prop} {Pm : Mem → Int → Mem → Prop} (hc : MP Mc (.ref 0 :: as) G (vi Pc)) (hm : ∀ v g, Pc v g → MP Mm (.ref 86 :: as) g (vi (Pm g))) (he : ∀ v g v' k, Pc v g → Pm g v' k → v = v' ∧ Rel k) : Cs Mc Mm as G := by
  obtain ⟨o, g, ⟨v, rfl, h1⟩, h2⟩ := hc
  obtain ⟨o', k, ⟨v', rfl, h3⟩, h4⟩ := hm v g h1
  obtain ⟨rfl, h5⟩ := he v g v' k h1 h3
  exact ⟨v, g, k, h2, h4, h5⟩
theorem CsL.mk {Mc Mm : MI} {as : List Value} {G : Mem} {Pc : Int → Mem → Prop} {Pm : Mem → Int → Mem → Prop} (hc : MP Mc (.ref 0 :: as) G (vl Pc)) (hm : ∀ v g, Pc v g → MP Mm (.ref 86 :: as) g (vl (Pm g))) (he : ∀ v g v' k, Pc v g → Pm g v' k → v = v' ∧ Rel k) : CsL Mc Mm as G := by
  obtain ⟨o, g, ⟨v, rfl, h1⟩, h2⟩ := hc
  obtain ⟨o', k, ⟨v', rfl, h3⟩, h4⟩ := hm v g h1
  obtain ⟨rfl, h5⟩ := he v g v' k h1 h3
  exact ⟨v, g, k, h2, h4, h5⟩
/-- what the Model needs of its cells, when the class has been called -/
theorem MV.nw {V g : Mem} (h : MV V (g 87)) : NW V g := ⟨⟨h.1.1, h.1.2.1, h.1.2.2.1⟩, h.2.1⟩
theorem MV.sp {V g : Mem} (h : MV V (g 87)) : SP V g := ⟨h.1.2.2.2.1, h.2.2.1⟩
theorem MV.rd {V g : Mem} (h : MV V (g 87)) : RD V g := ⟨h.1.2.2.2.2.1, h.2.2.2.1⟩
theorem LI.e {l : Nat} {G g : Mem} (h : LI l G g) : ∀ a b, a ≠ l + 7 → a ≠ l + 8 → g a b = G a b := h.1
