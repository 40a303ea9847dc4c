theorem Rel.bytes {G k : Mem} (h : Rel G) (hT : Tok k) (h5 : M5 k) (e : ∀ a b, ¬ (a = 53 ∧ b = 1) → a ≠ 54 → a ≠ 98 → ¬ (a = 86 ∧ b = 15) → k a b = G a b) : Rel k := by
  obtain ⟨⟨r1, r27, r40, ht, hf, ha, hb⟩, c2, m1, m2, m3, m4, m5⟩ := h
  refine ⟨⟨r1.c (veq_of (fun a b x y => e a b (by omega) (by omega) (by omega) (by omega))), r27.c (veq_of (fun a b x y => e a b (by omega) (by omega) (by omega) (by omega))), r40.c (veq_of (fun a b x y => e a b (by omega) (by omega) (by omega) (by omega))), hT, ?_, ?_, ?_⟩, c2.c (fun a b x => e a b (by omega) (by omega) (by omega) (by omega)), M1.c r1 m1 (fun a b x => e a b (by omega) (by omega) (by omega) (by omega)) (fun b => e 87 b (by omega) (by omega) (by omega) (by omega)), m2.c r27 r40 (fun a b x => e a b (by omega) (by omega) (by omega) (by omega)), m3.c (fun a b x => e a b (by omega) (by omega) (by omega) (by omega)), m4.c (fun a b x => e a b (by omega) (by omega) (by omega) (by omega)), h5⟩
  · rw [e 0 4 (by omega) (by omega) (by omega) (by omega), e 0 5 (by omega) (by omega) (by omega) (by omega)]; exact hf
  · rw [e 0 10 (by omega) (by omega) (by omega) (by omega)]; exact ha
  · rw [e 0 11 (by omega) (by omega) (by omega) (by omega)]; exact hb
/-- only the fraction has changed, and scratch -/
theorem Rel.frac {G k : Mem} (h : Rel G) (h2 : C2 k) (h4 : M4 k) (ha : 0 ≤ k 0 10 ∧ k 0 10 ≤ 5000) (hb : 0 ≤ k 0 11 ∧ k 0 11 ≤ 5000) (e : ∀ a b, ¬ (a = 0 ∧ (b = 10 ∨ b = 11)) → ¬ (62 ≤ a ∧ a ≤ 85) → ¬ (a = 86 ∧ (b = 4 ∨ b = 5 ∨ b = 8)) → a ≠ 91 → a ≠ 92 → k a b = G a b) : Rel k := by
  obtain ⟨⟨r1, r27, r40, ht, hf, _, _⟩, c2, m1, m2, m3, m4, m5⟩ := h
  refine ⟨⟨r1.c (veq_of (fun a b x y => e a b (by omega) (by omega) (by omega) (by omega) (by omega))), r27.c (veq_of (fun a b x y => e a b (by omega) (by omega) (by omega) (by omega) (by omega))), r40.c (veq_of (fun a b x y => e a b (by omega) (by omega) (by omega) (by omega) (by omega))), ht.of (e 53 1 (by omega) (by omega) (by omega) (by omega) (by omega)) (fun j => e 54 j (by omega) (by omega) (by omega) (by omega) (by omega)), ?_, ha, hb⟩, h2, M1.c r1 m1 (fun a b x => e a b (by omega) (by omega) (by omega) (by omega) (by omega)) (fun b => e 87 b (by omega) (by omega) (by omega) (by omega) (by omega)), m2.c r27 r40 (fun a b x => e a b (by omega) (by omega) (by omega) (by omega) (by omega)), m3.c (fun a b x => e a b (by omega) (by omega) (by omega) (by omega) (by omega)), h4, m5.c (fun a b x => e a b (by omega) (by omega) (by omega) (by omega) (by omega))⟩
  rw [e 0 4 (by omega) (by omega) (by omega) (by omega) (by omega), e 0 5 (by omega) (by omega) (by omega) (by omega) (by omega)]; exact hf
theorem cs_clear {G : Mem} (h : Rel G)  : Cs M_X11_clear M_X12_clear [] G := by
  refine Cs.mk m_pClear (fun v g hp => m_xClear) (fun v g v' k hp hx => ?_)
  obtain ⟨rfl, rfl⟩ := hp
  obtain ⟨rfl, rfl⟩ := hx
  have m5 := h.2.2.2.2.2.2
  refine ⟨?_, h.bytes ⟨⟨?_, ?_⟩, fun j => ?_⟩ ⟨?_, fun j hj => absurd hj ?_⟩ (fun a b x y z w => ?_)⟩
  · rw [ug_nc (by decide)]; exact m5.1.symm
  · rw [ug_nc (by decide), ug_at]; decide
  · rw [ug_nc (by decide), ug_at]; decide
  · rw [ug_nc (by decide), ug_nc (by decide)]; exact h.1.2.2.2.1.2 j
  · rw [ug_at, ug_nc (by decide), ug_at]
  · rw [ug_nc (by decide), ug_at]; omega
  · rw [ug_ne w, ug_ne x]
theorem cs_type {G : Mem} (h : Rel G) {c : Int} (h_c : R32 c) : Cs M_X11_type M_X12_type [.int (iI c)] G := by
  have ht := h.1.2.2.2.1
  have hl := ht.1
  have m5 := h.2.2.2.2.2.2
  have hl2 : 0 ≤ G 86 15 ∧ G 86 15 ≤ 150 := by rw [m5.1]; exact hl
  have eA : (ug (ug G 54 (G 53 1).toNat c) 53 1 (G 53 1 + 1)) 86 15 = G 53 1 := by rw [ug_nc (by decide), ug_nc (by decide)]; exact m5.1
  refine Cs.mk (m_pType hl h_c) (fun v g hp => m_xType (G := g) ?_ h_c) (fun v g v' k hp hx => ?_)
  · by_cases q : 0 ≤ c ∧ c ≤ 127
    · rw [if_pos q] at hp
      by_cases c2 : G 53 1 < 150
      · rw [if_pos c2] at hp
        rw [← hp.2, eA]; exact hl
      · rw [if_neg c2] at hp
        rw [← hp.2, rF_ne (by decide)]; exact hl2
    · rw [if_neg q] at hp
      rw [← hp.2, rB_ne (by decide)]; exact hl2
  by_cases q : 0 ≤ c ∧ c ≤ 127
  · rw [if_pos q] at hp hx
    by_cases c2 : G 53 1 < 150
    · rw [if_pos c2] at hp
      obtain ⟨rfl, rfl⟩ := hp
      rw [if_pos (by rw [eA]; exact c2), eA] at hx
      obtain ⟨rfl, rfl⟩ := hx
      refine ⟨rfl, h.bytes ⟨?_, fun j => ?_⟩ ⟨?_, fun j hj => ?_⟩ (fun a b x y z w => ?_)⟩
      · rw [ug_nc (by decide), ug_nc (by decide), ug_at]; omega
      · rw [ug_nc (by decide), ug_nc (by decide), ug_nc (by decide)]
        by_cases e : j = (G 53 1).toNat
        · subst e; rw [ug_at]; omega
        · rw [ug_np e]; exact ht.2 j
      · rw [ug_at, ug_nc (by decide), ug_nc (by decide), ug_at]
      · rw [ug_nc (by decide), ug_nc (by decide), ug_at] at hj
        rw [ug_nc (a := 98) (i := 86) (by decide), ug_nc (a := 54) (i := 86) (by decide), ug_nc (a := 54) (i := 98) (by decide), ug_nc (a := 54) (i := 53) (by decide)]
        by_cases e : j = (G 53 1).toNat
        · subst e; rw [ug_at, ug_at]
        · rw [ug_np e, ug_np e, ug_nc (by decide), ug_nc (by decide)]; exact m5.2 j (by omega)
      · rw [ug_ne w, ug_nc z, ug_ne x, ug_nc y]
    · rw [if_neg c2] at hp
      obtain ⟨rfl, rfl⟩ := hp
      rw [if_neg (by rw [rF_ne (by decide), m5.1]; exact c2)] at hx
      obtain ⟨rfl, rfl⟩ := hx
      exact ⟨rfl, h.full⟩
  · rw [if_neg q] at hp hx
    obtain ⟨rfl, rfl⟩ := hp
    obtain ⟨rfl, rfl⟩ := hx
    exact ⟨rfl, h.bad⟩
theorem cs_status {G : Mem} (h : Rel G) {w : Int} (h_w : R32 w) : Cs M_X11_status M_X12_status [.int (iI w)] G := by
  have m3 := h.2.2.2.2.1
  refine Cs.mk (m_pStatus h_w) (fun v g hp => m_xStatus h_w) (fun v g v' k hp hx => ?_)
  by_cases c : 0 ≤ w ∧ w ≤ 2
  · rw [if_pos c] at hp hx
    obtain ⟨hv, rfl⟩ := hp
    obtain ⟨hv', rfl⟩ := hx
    refine ⟨hv.symm.trans (Eq.trans ?_ hv'), h⟩
    rcases (show w = 0 ∨ w = 1 ∨ w = 2 by omega) with rfl | rfl | rfl
    · exact m3.1.symm
    · exact m3.2.1.symm
    · exact m3.2.2.symm
  · rw [if_neg c] at hp hx
    obtain ⟨rfl, rfl⟩ := hp
    obtain ⟨rfl, rfl⟩ := hx
    exact ⟨rfl, h.bad⟩
theorem cs_count {G : Mem} (h : Rel G) {w : Int} (h_w : R32 w) : Cs M_X11_count M_X12_count [.int (iI w)] G := by
  have e := h.e87 (g := G) (fun _ => rfl)
  have m5 := h.2.2.2.2.2.2
  refine Cs.mk (m_pCount h_w) (fun v g hp => m_xCount h_w) (fun v g v' k hp hx => ?_)
  by_cases c : 0 ≤ w ∧ w ≤ 6
  · rw [if_pos c] at hp hx
    obtain ⟨hv, rfl⟩ := hp
    obtain ⟨hv', rfl⟩ := hx
    refine ⟨hv.symm.trans (Eq.trans ?_ hv'), h⟩
    rcases (show w = 0 ∨ w = 1 ∨ w = 2 ∨ w = 3 ∨ w = 4 ∨ w = 5 ∨ w = 6 by omega) with rfl | rfl | rfl | rfl | rfl | rfl | rfl
    · exact e.1.symm
    · exact e.2.1.symm
    · exact e.2.2.1.symm
    · exact e.2.2.2.1.symm
    · exact e.2.2.2.2.1.symm
    · exact e.2.2.2.2.2.symm
    · exact m5.1.symm
  · rw [if_neg c] at hp hx
    obtain ⟨rfl, rfl⟩ := hp
    obtain ⟨rfl, rfl⟩ := hx
    exact ⟨rfl, h.bad⟩
theorem cs_part {G : Mem} (h : Rel G) {w : Int} (h_w : R32 w) : CsL M_X11_part M_X12_part [.int (iI w)] G := by
  have m4 := h.2.2.2.2.2.1
  refine CsL.mk (m_pPart (by have := h.1.2.2.2.2.2.1; exact ⟨by omega, by omega⟩) (by have := h.1.2.2.2.2.2.2; exact ⟨by omega, by omega⟩) h_w) (fun v g hp => m_xPart h_w) (fun v g v' k hp hx => ?_)
  by_cases c : 0 ≤ w ∧ w ≤ 1
  · rw [if_pos c] at hp hx
    obtain ⟨hv, rfl⟩ := hp
    obtain ⟨hv', rfl⟩ := hx
    refine ⟨hv.symm.trans (Eq.trans ?_ hv'), h⟩
    rcases (show w = 0 ∨ w = 1 by omega) with rfl | rfl
    · exact m4.1.symm
    · exact m4.2.symm
  · rw [if_neg c] at hp hx
    obtain ⟨rfl, rfl⟩ := hp
    obtain ⟨rfl, rfl⟩ := hx
    exact ⟨rfl, h.bad⟩
theorem cs_of {G : Mem} (h : Rel G) {c : Int} (h_c : R32 c) {t : Int} (h_t : R32 t) {w : Int} (h_w : R32 w) : Cs M_X11_of M_X12_of [.int (iI c), .int (iI t), .int (iI w)] G := by
  have r := h.1.1
  by_cases q : (0 ≤ c ∧ c ≤ G 1 2 - 1) ∧ (0 ≤ t ∧ t ≤ 59)
  · by_cases q2 : 0 ≤ w ∧ w ≤ 5
    · refine Cs.mk (m_pOf r.v h.2.1.2.1 h_c h_t h_w) (Pm := fun g v' k => if ((0 ≤ c ∧ c ≤ rv G 1 0 2 - 1) ∧ (0 ≤ t ∧ t ≤ 59)) ∧ (0 ≤ w ∧ w ≤ 5) then ((if w = 0 then G (1 + 1) c.toNat else if w = 1 then G (1 + 2) c.toNat else if w = 2 then vP (rv G 1) t c.toNat else if w = 3 then vH (rv G 1) t c.toNat else if w = 4 then G (1 + 4) c.toNat else G (1 + 5) c.toNat) = v' ∧ SC g k) else (-2 = v' ∧ xB g = k)) (fun v g hp => m_xOf r.v (h.mv (fun b => ?_)).nw h_c h_t h_w) (fun v g v' k hp hx => ?_)
      · rw [if_pos q, if_pos q2] at hp
        exact hp.2.1 87 b (by decide) (by decide)
      · rw [if_pos q, if_pos q2] at hp
        rw [if_pos ⟨q, q2⟩] at hx
        exact ⟨hp.1.symm.trans hx.1, h.q (fun a b x y => hp.2.1 a b (by omega) (by omega)) (h.2.1.li (by decide) hp.2) hx.2⟩
    · refine Cs.mk (m_pOf r.v h.2.1.2.1 h_c h_t h_w) (Pm := fun g v' k => if ((0 ≤ c ∧ c ≤ rv G 1 0 2 - 1) ∧ (0 ≤ t ∧ t ≤ 59)) ∧ (0 ≤ w ∧ w ≤ 5) then ((if w = 0 then G (1 + 1) c.toNat else if w = 1 then G (1 + 2) c.toNat else if w = 2 then vP (rv G 1) t c.toNat else if w = 3 then vH (rv G 1) t c.toNat else if w = 4 then G (1 + 4) c.toNat else G (1 + 5) c.toNat) = v' ∧ SC g k) else (-2 = v' ∧ xB g = k)) (fun v g hp => m_xOf r.v (h.mv (fun b => ?_)).nw h_c h_t h_w) (fun v g v' k hp hx => ?_)
      · rw [if_pos q, if_neg q2] at hp
        obtain ⟨_, g0, h1, rfl⟩ := hp
        rw [rB_ne (by decide)]
        exact h1.1 87 b (by decide) (by decide)
      · rw [if_pos q, if_neg q2] at hp
        rw [if_neg (fun z => q2 z.2)] at hx
        obtain ⟨rfl, g0, h1, rfl⟩ := hp
        obtain ⟨rfl, rfl⟩ := hx
        exact ⟨rfl, (h.q (fun a b x y => h1.1 a b (by omega) (by omega)) (h.2.1.li (by decide) h1) SC.rf).bad⟩
  · refine Cs.mk (m_pOf r.v h.2.1.2.1 h_c h_t h_w) (Pm := fun g v' k => if ((0 ≤ c ∧ c ≤ rv G 1 0 2 - 1) ∧ (0 ≤ t ∧ t ≤ 59)) ∧ (0 ≤ w ∧ w ≤ 5) then ((if w = 0 then G (1 + 1) c.toNat else if w = 1 then G (1 + 2) c.toNat else if w = 2 then vP (rv G 1) t c.toNat else if w = 3 then vH (rv G 1) t c.toNat else if w = 4 then G (1 + 4) c.toNat else G (1 + 5) c.toNat) = v' ∧ SC g k) else (-2 = v' ∧ xB g = k)) (fun v g hp => m_xOf r.v (h.mv (fun b => ?_)).nw h_c h_t h_w) (fun v g v' k hp hx => ?_)
    · rw [if_neg q] at hp
      rw [← hp.2]
      exact rB_ne (by decide)
    · rw [if_neg q] at hp
      rw [if_neg (fun z => q z.1)] at hx
      obtain ⟨rfl, rfl⟩ := hp
      obtain ⟨rfl, rfl⟩ := hx
      exact ⟨rfl, h.bad⟩
theorem cs_dolls {G : Mem} (h : Rel G)  : Cs M_X11_dolls M_X12_dolls [] G := by
  have r := h.1.1
  refine Cs.mk (m_pDolls r.v r.d h.2.1.2.2.2.1 r.z h.2.1.1.z (fun j => (r.u.2 j).1)) (Pm := fun g v' k => ((vDolls (rv G 1) (rv G 1 0 2).toNat : Nat) : Int) = v' ∧ SC g k) (fun v g hp => have mv := (h.mv (g := g) (fun b => (hp.2.1 87 b (by decide) (by decide)).trans (rC_ne (by decide)))); m_xDolls r.v r.d mv.nw mv.rd) (fun v g v' k hp hx => ?_)
  exact ⟨hp.1.symm.trans hx.1, h.q (fun a b x y => (hp.2.1 a b (by omega) (by omega)).trans (rC_ne x)) ((C2.copy h).li (by decide) hp.2) hx.2⟩
theorem div_b {t : Int} (ht : 0 ≤ t) (d : Nat) : 0 ≤ t / ((d + 1 : Nat) : Int) ∧ t / ((d + 1 : Nat) : Int) ≤ t := by
  obtain ⟨n, rfl⟩ : ∃ n : Nat, t = (n : Int) := ⟨t.toNat, by omega⟩
  rw [show (n : Int) / ((d + 1 : Nat) : Int) = ((n / (d + 1) : Nat) : Int) from rfl]
  exact ⟨Int.natCast_nonneg _, Int.ofNat_le.mpr (Nat.div_le_self _ _)⟩
theorem q_fr_b {t b : Int} (ht : 0 ≤ t ∧ t ≤ 5000) (hb : 0 ≤ b ∧ b ≤ 5000) : ∀ d, (0 ≤ (q_fr t b d).1 ∧ (q_fr t b d).1 ≤ 5000) ∧ 0 ≤ (q_fr t b d).2 ∧ (q_fr t b d).2 ≤ 5000
  | 0 => ⟨ht, hb⟩
  | d + 1 => by
    rw [q_fr.eq_2]
    split
    · have h1 := div_b ht.1 d
      have h2 := div_b hb.1 d
      exact ⟨⟨h1.1, Int.le_trans h1.2 ht.2⟩, h2.1, Int.le_trans h2.2 hb.2⟩
    · exact q_fr_b ht hb d
theorem cs_days {G : Mem} (h : Rel G) {s : Int} (h_s : R32 s) {n : Int} (h_n : R32 n) {w : Int} (h_w : R32 w) : Cs M_X11_days M_X12_days [.int (iI s), .int (iI n), .int (iI w)] G := by
  have r := h.1.1
  have m4 := h.2.2.2.2.2.1
  by_cases c : (0 ≤ s ∧ s ≤ 999999) ∧ (0 ≤ n ∧ n ≤ 30) ∧ (0 ≤ w ∧ w ≤ 100)
  · by_cases c2 : n = 0
    · refine Cs.mk (m_pDays r.v h.2.1.2.2.1 h_s h_n h_w) (fun v g hp => m_xDays (V := rv G 1) r.v (h.mv (fun b => ?_)).nw h_s h_n h_w) (fun v g v' k hp hx => ?_)
      · rw [if_pos c, if_pos c2] at hp
        rw [← hp.2]; exact rN_ne (by decide)
      · rw [if_pos c, if_pos c2] at hp hx
        obtain ⟨rfl, rfl⟩ := hp
        obtain ⟨rfl, rfl⟩ := hx
        exact ⟨rfl, h.no⟩
    · refine Cs.mk (m_pDays r.v h.2.1.2.2.1 h_s h_n h_w) (fun v g hp => m_xDays (V := rv G 1) r.v (h.mv (fun b => ?_)).nw h_s h_n h_w) (fun v g v' k hp hx => ?_)
      · rw [if_pos c, if_neg c2] at hp
        obtain ⟨_, g0, h1, rfl⟩ := hp
        unfold mFr
        rw [ug_nc (by decide), ug_nc (by decide)]
        exact h1.1 87 b (by decide) (by decide)
      · rw [if_pos c, if_neg c2] at hp hx
        obtain ⟨rfl, g0, h1, rfl⟩ := hp
        obtain ⟨rfl, g2, h3, rfl⟩ := hx
        have vb := (vDays_b r.v (w := w) (x0 := s) (by omega) n.toNat).2
        have qb := q_fr_b (t := (vDays (rv G 1) w s n.toNat).2) (b := n) (by omega) (by omega) n.toNat
        have e0 : ∀ b, g2 0 b = mFr g0 (vDays (rv G 1) w s n.toNat).2 n n.toNat 0 b := fun b => h3 0 b (by decide) (by decide) (by omega)
        refine ⟨rfl, h.frac ?_ ⟨?_, ?_⟩ ?_ ?_ (fun a b x y z u q => ?_)⟩
        · refine (h.2.1.li (by decide) h1).c (fun a b x => ?_)
          unfold xFr
          rw [ug_nc (by omega), ug_nc (by omega), h3 a b (by omega) (by omega) (by omega)]
          unfold mFr
          rw [ug_nc (by omega), ug_nc (by omega)]
        · unfold xFr
          rw [ug_np (by decide), ug_at, ug_nc (by decide), ug_nc (by decide), e0]
          unfold mFr
          rw [ug_np (by decide), ug_at]
        · unfold xFr
          rw [ug_at, ug_nc (by decide), ug_nc (by decide), e0]
          unfold mFr
          rw [ug_at]
        · unfold xFr
          rw [ug_nc (by decide), ug_nc (by decide), e0]
          unfold mFr
          rw [ug_np (by decide), ug_at]
          exact qb.1
        · unfold xFr
          rw [ug_nc (by decide), ug_nc (by decide), e0]
          unfold mFr
          rw [ug_at]
          exact qb.2
        · unfold xFr
          rw [ug_ne (by omega), ug_ne (by omega), h3 a b u q (by omega)]
          unfold mFr
          rw [ug_ne (by omega), ug_ne (by omega)]
          exact h1.1 a b (by omega) (by omega)
  · refine Cs.mk (m_pDays r.v h.2.1.2.2.1 h_s h_n h_w) (fun v g hp => m_xDays (V := rv G 1) r.v (h.mv (fun b => ?_)).nw h_s h_n h_w) (fun v g v' k hp hx => ?_)
    · rw [if_neg c] at hp
      rw [← hp.2]; exact rB_ne (by decide)
    · rw [if_neg c] at hp hx
      obtain ⟨rfl, rfl⟩ := hp
      obtain ⟨rfl, rfl⟩ := hx
      exact ⟨rfl, h.bad⟩
theorem ci_i {G : Mem} {i y : Nat} (h : y < 170) : ci G i 170 88 (170 * i + y) = G 87 y := by
  unfold ci
  rw [if_pos (by omega), show 170 * i + y - 170 * i = y by omega]
theorem ci_o {G : Mem} {i y : Nat} (h : y < 170 * i ∨ 170 * i + 170 ≤ y) : ci G i 170 88 y = G 88 y := if_neg (fun q => by omega)
theorem ci_ne {G : Mem} {i x y : Nat} (h : x ≠ 88) : ci G i 170 x y = G x y := if_neg (fun q => h q.1)
theorem cf_i {G : Mem} {i y : Nat} (h : y < 170) : cf G i 170 87 y = G 88 (170 * i + y) := if_pos ⟨rfl, h⟩
theorem cf_ne {G : Mem} {i x y : Nat} (h : x ≠ 87) : cf G i 170 x y = G x y := if_neg (fun q => h q.1)
/-- an image is kept, by both -/
theorem Rel.img {G k : Mem} {q i : Nat} (h : Rel G) (hqi : (q = 27 ∧ i = 0) ∨ (q = 40 ∧ i = 1)) (er : ∀ a b, a ≤ 12 → k (q + a) b = G (1 + a) b) (ef : ∀ y, y < 170 → k 88 (170 * i + y) = G 87 y) (ef2 : ∀ y, y < 170 * i ∨ 170 * i + 170 ≤ y → k 88 y = G 88 y) (e4 : k 0 (4 + i) = 1) (e89 : k 89 i = 1)
    (e : ∀ a b, ¬ (q ≤ a ∧ a ≤ q + 12) → ¬ (a = 0 ∧ b = 4 + i) → a ≠ 88 → ¬ (a = 89 ∧ b = i) → k a b = G a b) : Rel k := by
  obtain ⟨⟨r1, r27, r40, ht, hf, ha, hb⟩, c2, m1, m2, m3, m4, m5⟩ := h
  have vq : Veq (rv G 1) (rv k q) := fun a b ha => (er a b ha).symm
  have c1 : Rok (rv k 27) ∧ Rok (rv k 40) := by
    rcases hqi with ⟨rfl, rfl⟩ | ⟨rfl, rfl⟩
    · exact ⟨r1.c vq, r40.c (veq_of (fun a b x y => e a b (by omega) (by omega) (by omega) (by omega)))⟩
    · exact ⟨r27.c (veq_of (fun a b x y => e a b (by omega) (by omega) (by omega) (by omega))), r1.c vq⟩
  have hm2 : M2 k := by
    obtain ⟨⟨a1, a2, a3⟩, b1, b2⟩ := m2
    have a3' : ∀ j, k 89 j = 0 ∨ k 89 j = 1 := fun j => by
      by_cases z : j = i
      · subst z; exact Or.inr e89
      · rw [e 89 j (by omega) (by omega) (by omega) (by omega)]; exact a3 j
    rcases hqi with ⟨rfl, rfl⟩ | ⟨rfl, rfl⟩
    · refine ⟨⟨e89.trans e4.symm, ?_, a3'⟩, fun _ => m1.c r1 vq (fun y hy => by have z := ef y hy; rw [Nat.mul_zero, Nat.zero_add] at z; exact z), fun q => ?_⟩
      · rw [e 89 1 (by omega) (by omega) (by omega) (by omega), e 0 5 (by omega) (by omega) (by omega) (by omega)]; exact a2
      · rw [e 0 5 (by omega) (by omega) (by omega) (by omega)] at q
        exact (b2 q).c r40 (veq_of (fun a b x y => e a b (by omega) (by omega) (by omega) (by omega))) (fun y _ => ef2 (170 + y) (by omega))
    · refine ⟨⟨?_, e89.trans e4.symm, a3'⟩, fun q => ?_, fun _ => m1.c r1 vq (fun y hy => ef y hy)⟩
      · rw [e 89 0 (by omega) (by omega) (by omega) (by omega), e 0 4 (by omega) (by omega) (by omega) (by omega)]; exact a1
      · rw [e 0 4 (by omega) (by omega) (by omega) (by omega)] at q
        exact (b1 q).c r27 (veq_of (fun a b x y => e a b (by omega) (by omega) (by omega) (by omega))) (fun y hy => ef2 y (by omega))
  refine ⟨⟨r1.c (veq_of (fun a b x y => e a b (by omega) (by omega) (by omega) (by omega))), c1.1, c1.2, ht.of (e 53 1 (by omega) (by omega) (by omega) (by omega)) (fun j => e 54 j (by omega) (by omega) (by omega) (by omega)), ?_, ?_, ?_⟩, c2.c (fun a b x => e a b (by omega) (by omega) (by omega) (by omega)), M1.c r1 m1 (fun a b x => e a b (by omega) (by omega) (by omega) (by omega)) (fun b => e 87 b (by omega) (by omega) (by omega) (by omega)), hm2, m3.c (fun a b x => e a b (by omega) (by omega) (by omega) (by omega)), m4.c (fun a b x => e a b (by omega) (by omega) (by omega) (by omega)), m5.c (fun a b x => e a b (by omega) (by omega) (by omega) (by omega))⟩
  · rcases hqi with ⟨rfl, rfl⟩ | ⟨rfl, rfl⟩
    · rw [e 0 5 (by omega) (by omega) (by omega) (by omega)]; exact ⟨Or.inr e4, hf.2⟩
    · rw [e 0 4 (by omega) (by omega) (by omega) (by omega)]; exact ⟨hf.1, Or.inr e4⟩
  · rw [e 0 10 (by omega) (by omega) (by omega) (by omega)]; exact ha
  · rw [e 0 11 (by omega) (by omega) (by omega) (by omega)]; exact hb
theorem cs_image {G : Mem} (h : Rel G) {w : Int} (h_w : R32 w) : Cs M_X11_image M_X12_image [.int (iI w)] G := by
  have r := h.1.1
  refine Cs.mk (m_pImage (fun j => (r.u.2 j).1) h_w) (fun v g hp => m_xImage h_w) (fun v g v' k hp hx => ?_)
  by_cases c : 0 ≤ w ∧ w ≤ 1
  · rw [if_pos c] at hp hx
    rcases (show w = 0 ∨ w = 1 by omega) with c0 | c0
    · subst c0
      obtain ⟨rfl, hg⟩ := hp
      obtain ⟨rfl, rfl⟩ := hx
      rw [if_pos rfl] at hg
      subst hg
      refine ⟨rfl, h.img (q := 27) (i := 0) (by decide) (fun a b x => ?_) (fun y hy => ?_) (fun y hy => ?_) ?_ ?_ (fun a b x y z u => ?_)⟩
      · show ug (ci (ug (rCopy G 27 1) 0 4 1) 0 170) 89 0 1 (27 + a) b = _
        rw [ug_nc (by omega), ci_ne (by omega), ug_nc (by omega)]
        exact rCopy_at (by decide) h.1.2.1.z r.z a b x
      · show ug (ci (ug (rCopy G 27 1) 0 4 1) 0 170) 89 0 1 88 _ = _
        rw [ug_nc (by decide), ci_i hy, ug_nc (by decide)]
        exact rCopy_ne (by decide)
      · show ug (ci (ug (rCopy G 27 1) 0 4 1) 0 170) 89 0 1 88 _ = _
        rw [ug_nc (by decide), ci_o hy, ug_nc (by decide)]
        exact rCopy_ne (by decide)
      · show ug (ci (ug (rCopy G 27 1) 0 4 1) 0 170) 89 0 1 0 _ = _
        rw [ug_nc (by decide), ci_ne (by decide), ug_at]
      · exact ug_at
      · show ug (ci (ug (rCopy G 27 1) 0 4 1) 0 170) 89 0 1 a b = _
        rw [ug_ne u, ci_ne z, ug_ne y]
        exact rCopy_ne (by omega)
    · subst c0
      obtain ⟨rfl, hg⟩ := hp
      obtain ⟨rfl, rfl⟩ := hx
      rw [if_neg (by decide)] at hg
      subst hg
      refine ⟨rfl, h.img (q := 40) (i := 1) (by decide) (fun a b x => ?_) (fun y hy => ?_) (fun y hy => ?_) ?_ ?_ (fun a b x y z u => ?_)⟩
      · show ug (ci (ug (rCopy G 40 1) 0 5 1) 1 170) 89 1 1 (40 + a) b = _
        rw [ug_nc (by omega), ci_ne (by omega), ug_nc (by omega)]
        exact rCopy_at (by decide) h.1.2.2.1.z r.z a b x
      · show ug (ci (ug (rCopy G 40 1) 0 5 1) 1 170) 89 1 1 88 _ = _
        rw [ug_nc (by decide), ci_i hy, ug_nc (by decide)]
        exact rCopy_ne (by decide)
      · show ug (ci (ug (rCopy G 40 1) 0 5 1) 1 170) 89 1 1 88 _ = _
        rw [ug_nc (by decide), ci_o hy, ug_nc (by decide)]
        exact rCopy_ne (by decide)
      · show ug (ci (ug (rCopy G 40 1) 0 5 1) 1 170) 89 1 1 0 _ = _
        rw [ug_nc (by decide), ci_ne (by decide), ug_at]
      · exact ug_at
      · show ug (ci (ug (rCopy G 40 1) 0 5 1) 1 170) 89 1 1 a b = _
        rw [ug_ne u, ci_ne z, ug_ne y]
        exact rCopy_ne (by omega)
  · rw [if_neg c] at hp hx
    obtain ⟨rfl, rfl⟩ := hp
    obtain ⟨rfl, rfl⟩ := hx
    exact ⟨rfl, h.bad⟩
theorem cs_from {G : Mem} (h : Rel G) {w : Int} (h_w : R32 w) : Cs M_X11_from M_X12_from [.int (iI w)] G := by
  have r := h.1.1
  have m2 := h.2.2.2.1
  refine Cs.mk (m_pFrom h.1.2.2.2.2.1.1 h.1.2.2.2.2.1.2 (fun j => (h.1.2.1.u.2 j).1) (fun j => (h.1.2.2.1.u.2 j).1) h_w) (fun v g hp => m_xFrom h_w (fun j => ?_)) (fun v g v' k hp hx => ?_)
  · have e : g 89 j = G 89 j := by
      by_cases c : 0 ≤ w ∧ w ≤ 1
      · rw [if_pos c] at hp
        by_cases c0 : w = 0
        · rw [if_pos c0] at hp
          by_cases c2 : G 0 4 = 0
          · rw [if_pos c2] at hp; rw [← hp.2]; exact rN_ne (by decide)
          · rw [if_neg c2] at hp; rw [← hp.2]; exact rCopy_ne (by decide)
        · rw [if_neg c0] at hp
          by_cases c2 : G 0 5 = 0
          · rw [if_pos c2] at hp; rw [← hp.2]; exact rN_ne (by decide)
          · rw [if_neg c2] at hp; rw [← hp.2]; exact rCopy_ne (by decide)
      · rw [if_neg c] at hp; rw [← hp.2]; exact rB_ne (by decide)
    rw [e]
    exact m2.1.2.2 j
  by_cases c : 0 ≤ w ∧ w ≤ 1
  · rw [if_pos c] at hp hx
    rcases (show w = 0 ∨ w = 1 by omega) with c0 | c0
    · subst c0
      rw [if_pos rfl] at hp
      by_cases c2 : G 0 4 = 0
      · rw [if_pos c2] at hp
        obtain ⟨rfl, rfl⟩ := hp
        rw [if_pos (by show rN G 89 0 = 0; rw [rN_ne (by decide), m2.1.1]; exact c2)] at hx
        obtain ⟨rfl, rfl⟩ := hx
        exact ⟨rfl, h.no⟩
      · rw [if_neg c2] at hp
        obtain ⟨rfl, rfl⟩ := hp
        rw [if_neg (by show ¬ rCopy G 1 27 89 0 = 0; rw [rCopy_ne (by decide), m2.1.1]; exact c2)] at hx
        obtain ⟨rfl, rfl⟩ := hx
        have vq := rCopy_veq (G := G) (r := 1) (q := 27) (by decide) r.z h.1.2.1.z
        have mi := m2.2.1 (by have := h.1.2.2.2.2.1; omega)
        refine ⟨rfl, h.mut (g := rCopy G 1 27) (h.1.2.1.c vq) (mi.c h.1.2.1 vq (fun y hy => ?_)) (fun a b x => rCopy_ne (by omega)) (fun a b x => cf_ne x)⟩
        show cf (rCopy G 1 27) 0 170 87 y = _
        rw [cf_i hy, rCopy_ne (by decide)]
        rw [Nat.mul_zero, Nat.zero_add]
    · subst c0
      rw [if_neg (by decide)] at hp
      by_cases c2 : G 0 5 = 0
      · rw [if_pos c2] at hp
        obtain ⟨rfl, rfl⟩ := hp
        rw [if_pos (by show rN G 89 1 = 0; rw [rN_ne (by decide), m2.1.2.1]; exact c2)] at hx
        obtain ⟨rfl, rfl⟩ := hx
        exact ⟨rfl, h.no⟩
      · rw [if_neg c2] at hp
        obtain ⟨rfl, rfl⟩ := hp
        rw [if_neg (by show ¬ rCopy G 1 40 89 1 = 0; rw [rCopy_ne (by decide), m2.1.2.1]; exact c2)] at hx
        obtain ⟨rfl, rfl⟩ := hx
        have vq := rCopy_veq (G := G) (r := 1) (q := 40) (by decide) r.z h.1.2.2.1.z
        have mi := m2.2.2 (by have := h.1.2.2.2.2.1; omega)
        refine ⟨rfl, h.mut (g := rCopy G 1 40) (h.1.2.2.1.c vq) (mi.c h.1.2.2.1 vq (fun y hy => ?_)) (fun a b x => rCopy_ne (by omega)) (fun a b x => cf_ne x)⟩
        show cf (rCopy G 1 40) 1 170 87 y = _
        rw [cf_i hy, rCopy_ne (by decide)]
  · rw [if_neg c] at hp hx
    obtain ⟨rfl, rfl⟩ := hp
    obtain ⟨rfl, rfl⟩ := hx
    exact ⟨rfl, h.bad⟩
theorem dg_c {G : Mem} {V : Mem} {h : Int} (hk : MK V (G 87)) : ∀ n : Nat, (n : Int) ≤ V 0 2 → xs G h 6 (5 * n) = dgC V h n
  | 0, _ => rfl
  | n + 1, hn => by
    have ih := dg_c hk (h := h) n (by omega)
    have z := hk n (by omega)
    rw [show 5 * (n + 1) = 5 * n + 1 + 1 + 1 + 1 + 1 by omega]
    show 31 * (31 * (31 * (31 * (31 * xs G h 6 (5 * n) + G 87 (6 + 5 * n)) + G 87 (6 + (5 * n + 1))) + G 87 (6 + (5 * n + 2))) + G 87 (6 + (5 * n + 3))) + G 87 (6 + (5 * n + 4)) = 31 * (31 * (31 * (31 * (31 * dgC V h n + V 1 n) + V 2 n) + V 3 n) + V 4 n) + V 5 n
    rw [ih, ← z.1, ← z.2.1, ← z.2.2.1, ← z.2.2.2.1, ← z.2.2.2.2]
    rfl
theorem dg_s {G : Mem} {V : Mem} {h : Int} (hk : MP6 V (G 87)) : ∀ n : Nat, (n : Int) ≤ V 0 8 → xs G h 36 n = dgS V h n
  | 0, _ => rfl
  | n + 1, hn => by
    have ih := dg_s hk (h := h) n (by omega)
    have z := hk n (by omega)
    show 31 * xs G h 36 n + G 87 (36 + n) = 31 * dgS V h n + V 6 n
    rw [ih, z]
theorem dg_r {G : Mem} {V : Mem} {h : Int} (hk : MR V (G 87)) : ∀ n : Nat, (n : Int) ≤ V 0 10 → xs G h 56 (3 * n) = dgR V h n
  | 0, _ => rfl
  | n + 1, hn => by
    have ih := dg_r hk (h := h) n (by omega)
    have z := hk n (by omega)
    rw [show 3 * (n + 1) = 3 * n + 1 + 1 + 1 by omega]
    show 31 * (31 * (31 * xs G h 56 (3 * n) + G 87 (56 + 3 * n)) + G 87 (56 + (3 * n + 1))) + G 87 (56 + (3 * n + 2)) = 31 * (31 * (31 * dgR V h n + V 7 n) + V 8 n) + V 9 n
    rw [ih, ← z.1, ← z.2.1, ← z.2.2]
    rfl
theorem dg_w {G : Mem} (h : Rel G) : xC G 7 = dgW G 7 := by
  have e := h.e87 (g := G) (fun _ => rfl)
  have m5 := h.2.2.2.2.2.2
  have k : ∀ w : Nat, w < 7 → (if (w : Int) < 6 then G 87 (w : Int).toNat else G 86 15) = q_c7 G (w : Int) := fun w hw => by
    rcases (show w = 0 ∨ w = 1 ∨ w = 2 ∨ w = 3 ∨ w = 4 ∨ w = 5 ∨ w = 6 by omega) with rfl | rfl | rfl | rfl | rfl | rfl | rfl
    · exact e.1
    · exact e.2.1
    · exact e.2.2.1
    · exact e.2.2.2.1
    · exact e.2.2.2.2.1
    · exact e.2.2.2.2.2
    · exact m5.1
  have s1 : ∀ w, xC G (w + 1) = 31 * xC G w + (if (w : Int) < 6 then G 87 (w : Int).toNat else G 86 15) := fun _ => rfl
  have s2 : ∀ w, dgW G (w + 1) = 31 * dgW G w + q_c7 G (w : Int) := fun _ => rfl
  have : ∀ w : Nat, w ≤ 7 → xC G w = dgW G w := fun w => by
    induction w with
    | zero => intro _; rfl
    | succ w ih =>
      intro hw
      rw [s1, s2, ih (by omega), k w (by omega)]
  exact this 7 (by decide)
/-- now's first part is made of small numbers -/
def Sm (f : Nat → Int) : Prop := ∀ y, R32 (f y)
theorem dig_eq {G : Mem} (h : Rel G) : 31 * (31 * xs G (xs G (xs G (xC G 7) 6 (5 * (G 87 0).toNat)) 36 (G 87 3).toNat) 56 (3 * (G 87 4).toNat) + G 86 4) + G 86 5 = mDig G := by
  have r := h.1.1
  have mv := h.2.2.1
  have e := h.e87 (g := G) (fun _ => rfl)
  have m4 := h.2.2.2.2.2.1
  have h2 : 0 ≤ G 1 2 ∧ G 1 2 ≤ 6 := r.v.2.2.1
  have h8 : 0 ≤ G 1 8 ∧ G 1 8 ≤ 20 := r.s.1
  have h10 : 0 ≤ G 1 10 ∧ G 1 10 ≤ 6 := r.d.1
  rw [e.1, e.2.2.2.1, e.2.2.2.2.1, dg_w h, dg_c mv.2.1 _ (by show (((G 1 2).toNat : Nat) : Int) ≤ G 1 2; omega), dg_s mv.2.2.1 _ (by show (((G 1 8).toNat : Nat) : Int) ≤ G 1 8; omega), dg_r mv.2.2.2.1 _ (by show (((G 1 10).toNat : Nat) : Int) ≤ G 1 10; omega), m4.1, m4.2]
  rfl
theorem MK.r {V : Mem} {f : Nat → Int} (hV : Vok V) (h : MK V f) : ∀ k : Nat, k < 5 * (V 0 2).toNat → R32 (f (6 + k)) := fun k hk => by
  have z := h (k / 5) (by omega)
  have v := hV.2.2.2 (k / 5)
  rcases (show k % 5 = 0 ∨ k % 5 = 1 ∨ k % 5 = 2 ∨ k % 5 = 3 ∨ k % 5 = 4 by omega) with q | q | q | q | q
  · rw [show 6 + k = 6 + 5 * (k / 5) + 0 by omega, z.1]; exact ⟨by omega, by omega⟩
  · rw [show 6 + k = 6 + 5 * (k / 5) + 1 by omega, z.2.1]; exact ⟨by omega, by omega⟩
  · rw [show 6 + k = 6 + 5 * (k / 5) + 2 by omega, z.2.2.1]; exact ⟨by omega, by omega⟩
  · rw [show 6 + k = 6 + 5 * (k / 5) + 3 by omega, z.2.2.2.1]; exact ⟨by omega, by omega⟩
  · rw [show 6 + k = 6 + 5 * (k / 5) + 4 by omega, z.2.2.2.2]; exact ⟨by omega, by omega⟩
theorem MR.r {V : Mem} {f : Nat → Int} (hD : Dok V) (h : MR V f) : ∀ k : Nat, k < 3 * (V 0 10).toNat → R32 (f (56 + k)) := fun k hk => by
  have z := h (k / 3) (by omega)
  have v := hD.2 (k / 3)
  rcases (show k % 3 = 0 ∨ k % 3 = 1 ∨ k % 3 = 2 by omega) with q | q | q
  · rw [show 56 + k = 56 + 3 * (k / 3) by omega, z.1]; exact ⟨by omega, by omega⟩
  · rw [show 56 + k = 56 + 3 * (k / 3) + 1 by omega, z.2.1]; exact ⟨by omega, by omega⟩
  · rw [show 56 + k = 56 + 3 * (k / 3) + 2 by omega, z.2.2]; exact ⟨by omega, by omega⟩
theorem dig_x {G : Mem} (h : Rel G) : MP M_X12_digest [.ref 86] G (vl fun v g => mDig G = v ∧ G = g) := by
  have r := h.1.1
  have mv := h.2.2.1
  have e := h.e87 (g := G) (fun _ => rfl)
  have h0 : 0 ≤ G 1 0 ∧ G 1 0 ≤ 47 := r.v.1
  have h1 : 0 ≤ G 1 1 ∧ G 1 1 ≤ 2 := r.v.2.1
  have h2 : 0 ≤ G 1 2 ∧ G 1 2 ≤ 6 := r.v.2.2.1
  have h8 : 0 ≤ G 1 8 ∧ G 1 8 ≤ 20 := r.s.1
  have h10 : 0 ≤ G 1 10 ∧ G 1 10 ≤ 6 := r.d.1
  have h14 : 0 ≤ G 1 14 ∧ G 1 14 ≤ 8 := r.u.1
  have m5 := h.2.2.2.2.2.2
  have ht := h.1.2.2.2.1.1
  have a6 : ∀ k : Nat, k < 6 → R32 (G 87 k) := fun k hk => by
    rcases (show k = 0 ∨ k = 1 ∨ k = 2 ∨ k = 3 ∨ k = 4 ∨ k = 5 by omega) with rfl | rfl | rfl | rfl | rfl | rfl
    · rw [e.1]; exact ⟨by omega, by omega⟩
    · rw [e.2.1]; exact ⟨by omega, by omega⟩
    · rw [e.2.2.1]; exact ⟨by omega, by omega⟩
    · rw [e.2.2.2.1]; exact ⟨by omega, by omega⟩
    · rw [e.2.2.2.2.1]; exact ⟨by omega, by omega⟩
    · rw [e.2.2.2.2.2]; exact ⟨by omega, by omega⟩
  have a36 : ∀ k : Nat, k < (G 87 3).toNat → R32 (G 87 (36 + k)) := fun k hk => by
    have z := mv.2.2.1 k (by rw [e.2.2.2.1] at hk; show (k : Int) < G 1 8; omega)
    have v := r.s.2 k
    rw [z]
    exact ⟨by omega, by omega⟩
  have hx := m_xDigest (G := G) a6 (fun k hk => mv.2.1.r r.v k (by rw [e.1] at hk; exact hk)) a36 (fun k hk => mv.2.2.2.1.r r.d k (by rw [e.2.2.2.2.1] at hk; exact hk)) (by rw [m5.1]; exact ⟨by omega, by omega⟩) (by rw [e.1]; exact h2) (by rw [e.2.2.2.1]; exact h8) (by rw [e.2.2.2.2.1]; exact h10)
  rw [dig_eq h] at hx
  exact hx
theorem cs_digest {G : Mem} (h : Rel G)  : CsL M_X11_digest M_X12_digest [] G := by
  have r := h.1.1
  refine CsL.mk (m_pDigest r.v r.s r.d r.u.1 h.1.2.2.2.1.1 (by have := h.1.2.2.2.2.2.1; exact ⟨by omega, by omega⟩) (by have := h.1.2.2.2.2.2.2; exact ⟨by omega, by omega⟩)) (Pm := fun g v' k => mDig G = v' ∧ g = k ∧ G = g) (fun v g hp => ?_) (fun v g v' k hp hx => ?_)
  · obtain ⟨_, rfl⟩ := hp
    refine (dig_x h).mono ?_
    rintro o k ⟨v, h1, h2, h3⟩
    exact ⟨v, h1, h2, h3, rfl⟩
  · obtain ⟨rfl, rfl⟩ := hp
    obtain ⟨rfl, rfl, _⟩ := hx
    exact ⟨rfl, h⟩
theorem nV_r {T : Nat → Int} {L : Nat} {lo hi : Int} {p : Nat} (hlo : 0 ≤ lo) (h : 0 ≤ nVal T L lo hi p) : lo ≤ nVal T L lo hi p ∧ nVal T L lo hi p ≤ hi := by
  rcases nVal_b (T := T) (L := L) (lo := lo) (hi := hi) (p := p) with q | q
  · omega
  · exact q
theorem inF_r : ∀ (d it : Nat) (G : Mem) (p : Nat), Rok (rv G 14) → Rok (rv (inF 14 d it G p).2.1 14) ∧ ∀ a b, ¬ (14 ≤ a ∧ a ≤ 26) → (inF 14 d it G p).2.1 a b = G a b := by
  intro d
  induction d with
  | zero => intro it G p h; exact ⟨h, fun _ _ _ => rfl⟩
  | succ d ih =>
    intro it G p h
    unfold inF
    split
    · exact ⟨h, fun _ _ _ => rfl⟩
    · split
      · split
        · next hr =>
          have k := riO_iff.mp hr
          have z := ih (it + 1) _ (riE (G 54) (tL G) (tSk (G 54) (tL G) p)) (h.begin (nV_r (by decide) k.2.1) (nV_r (by decide) k.2.2.1))
          exact ⟨z.1, fun a b x => (z.2 a b x).trans (rBegin_ne (by omega))⟩
        · exact ⟨h, fun _ _ _ => rfl⟩
      · split
        · next hr =>
          have k := ciO_iff.mp hr
          have z := ih (it + 1) _ (ciE (G 54) (tL G) (tSk (G 54) (tL G) p)) (h.add (nV_r (by decide) k.2.1) (nV_r (by decide) k.2.2.1) (nV_r (by decide) k.2.2.2.1) (nV_r (by decide) k.2.2.2.2.1) (nV_r (by decide) k.2.2.2.2.2.1))
          exact ⟨z.1, fun a b x => (z.2 a b x).trans (rAdd_ne (by omega))⟩
        · exact ⟨h, fun _ _ _ => rfl⟩
theorem AN.mv {V : Mem} {f f' : Nat → Int} (h : AN V f) (hV : Vok V) (hf : ∀ y, y < 74 → f' y = f y) : MV V f' := by
  have h2 := hV.2.2.1
  obtain ⟨⟨a0, a1, a2, a3, a4, a5⟩, ⟨b0, b1, b2⟩, hr⟩ := h
  refine ⟨⟨?_, ?_, ?_, ?_, ?_, ?_⟩, fun i hi => ?_, fun i hi => absurd hi (by omega), fun i hi => absurd hi (by omega), fun k c hk => absurd hk (by omega)⟩
  · rw [hf 0 (by decide)]; exact a0
  · rw [hf 1 (by decide)]; exact a1
  · rw [hf 2 (by decide)]; exact a2
  · rw [hf 3 (by decide), b0]; exact a3
  · rw [hf 4 (by decide), b1]; exact a4
  · rw [hf 5 (by decide), b2]; exact a5
  · have z := hr i hi
    rw [hf _ (by omega), hf _ (by omega), hf _ (by omega), hf _ (by omega), hf _ (by omega)]
    exact z
theorem cs_read {G : Mem} (h : Rel G)  : Cs M_X11_read M_X12_read [] G := by
  have r := h.1.1
  have r14 := h.2.1.1
  have ht := h.1.2.2.2.1
  have m5 := h.2.2.2.2.2.2
  have hF := inF_r 8 0 G 0 r14
  have hI : ∀ a b, ¬ (14 ≤ a ∧ a ≤ 26) → ¬ (a = 53 ∧ b = 2) → mIn G a b = G a b := fun a b x y => (ug_ne y).trans (hF.2 a b x)
  have vI : Veq (rv (inF 14 8 0 G 0).2.1 14) (rv (mIn G) 14) := fun a b ha => (show ug (inF 14 8 0 G 0).2.1 53 2 _ (14 + a) b = (inF 14 8 0 G 0).2.1 (14 + a) b from ug_nc (by omega)).symm
  have rI : Rok (rv (mIn G) 14) := hF.1.c vI
  have rI1 : Rok (rv (mIn G) 1) := r.c (veq_of (fun a b x y => hI a b (by omega) (by omega)))
  have vC := rCopy_veq (G := mIn G) (r := 1) (q := 14) (by decide) rI1.z rI.z
  have cI : C2 (mIn G) := by
    obtain ⟨h1, h2, h3, h4, h5⟩ := h.2.1
    refine ⟨rI, fun j => ?_, fun j => ?_, fun j => ?_, fun j => ?_⟩
    · rw [hI (55 + 7) j (by decide) (by omega), hI (55 + 8) j (by decide) (by omega)]; exact h2 j
    · rw [hI (65 + 7) j (by decide) (by omega), hI (65 + 8) j (by decide) (by omega)]; exact h3 j
    · rw [hI (76 + 7) j (by decide) (by omega), hI (76 + 8) j (by decide) (by omega)]; exact h4 j
    · rw [hI 74 j (by decide) (by omega)]; exact h5 j
  refine Cs.mk (m_pRead ht r14.v.2.2.1 (fun j => (r14.u.2 j).1)) (fun v g hp => m_xRead (T := G 54) (L := tL G) (Gc := G) ht.2 ⟨?_, ?_, fun j hj => ?_⟩ rfl rfl rfl) (fun v g v' k hp hx => ?_)
  · have e : g 86 15 = G 86 15 := by
      rw [← hp.2]
      split
      · rw [rCopy_ne (by decide)]; exact hI 86 15 (by decide) (by decide)
      · exact hI 86 15 (by decide) (by decide)
    rw [e, m5.1]
    exact ht.tl.2.symm
  · have := ht.tl
    omega
  · have e : g 98 j = G 98 j := by
      rw [← hp.2]
      split
      · rw [rCopy_ne (by decide)]; exact hI 98 j (by decide) (by omega)
      · exact hI 98 j (by decide) (by omega)
    rw [e]
    exact m5.2 j (by have := ht.tl; omega)
  obtain ⟨rfl, hg⟩ := hp
  obtain ⟨rfl, hk⟩ := hx
  refine ⟨rfl, ?_⟩
  by_cases q : 0 < (inF 14 8 0 G 0).1
  · rw [if_pos q] at hg hk
    subst hg
    obtain ⟨g1, hs, hA, rfl⟩ := hk
    have ek : ∀ a b, ¬ (a = 87) → (a < 91 ∨ a = 98) → ¬ (a = 86 ∧ (b = 8 ∨ (16 ≤ b ∧ b ≤ 19))) → cn g1 74 a b = rCopy (mIn G) 1 14 a b := fun a b x y z => (if_neg (fun u => x u.1)).trans (hs a b y z)
    have hm := (hA.mv (f' := cn g1 74 87) hF.1.v (fun y hy => if_pos ⟨rfl, hy⟩))
    refine h.now ?_ ?_ ?_ (fun a b x y z u w t => ?_)
    · refine (show C2 (rCopy (mIn G) 1 14) from ?_).c (fun a b x => ek a b (by omega) (by omega) (by omega))
      exact cI.c (fun a b x => rCopy_ne (by omega))
    · exact (rI.c vC).c (veq_of (fun a b x y => ek a b (by omega) (by omega) (by omega)))
    · refine hm.c hF.1 (fun a b ha => ?_) (fun y _ => rfl)
      show (inF 14 8 0 G 0).2.1 (14 + a) b = cn g1 74 (1 + a) b
      rw [ek (1 + a) b (by omega) (by omega) (by omega)]
      exact (vI a b ha).trans (vC a b ha)
    · rw [ek a b z (by omega) u, rCopy_ne (by omega)]
      exact hI a b (by omega) t
  · rw [if_neg q] at hg hk
    subst hg
    refine h.now (cI.c (fun a b x => hk a b (by omega) (by omega))) (rI1.c (veq_of (fun a b x y => hk a b (by omega) (by omega)))) ?_ (fun a b x y z u w t => (hk a b (by omega) u).trans (hI a b (by omega) t))
    exact h.2.2.1.c r (veq_of (fun a b x y => (hk a b (by omega) (by omega)).trans (hI a b (by omega) (by omega)))) (fun y _ => (hk 87 y (by decide) (by omega)).trans (hI 87 y (by decide) (by omega)))
