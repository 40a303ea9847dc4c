theorem Rel.e87 {G g : Mem} (h : Rel G) (e : ∀ b, g 87 b = G 87 b) : g 87 0 = G 1 2 ∧ g 87 1 = G 1 0 ∧ g 87 2 = G 1 1 ∧ g 87 3 = G 1 8 ∧ g 87 4 = G 1 10 ∧ g 87 5 = G 1 14 := by
  have k := h.2.2.1.1
  rw [e, e, e, e, e, e]
  exact k
theorem q_ne (y j : Nat) {f : Nat → Int} {g : Mem} {v : Int} : ug g 87 j v 87 y = if y = j then v else g 87 y := by
  by_cases e : y = j
  · subst e; rw [ug_at, if_pos rfl]
  · rw [ug_np e, if_neg e]
theorem cs_road {G : Mem} (h : Rel G) {s : Int} (h_s : R32 s) {l : Int} (h_l : R32 l) : Cs M_X11_road M_X12_road [.int (iI s), .int (iI l)] G := by
  have r := h.1.1
  refine Cs.mk (m_pRoad h_s h_l) (fun v g hp => m_xRoad h_s h_l) (fun v g v' k hp hx => ?_)
  by_cases c : (0 ≤ s ∧ s ≤ 47) ∧ (0 ≤ l ∧ l ≤ 2)
  · rw [if_pos c] at hp hx
    obtain ⟨rfl, rfl⟩ := hp
    obtain ⟨rfl, rfl⟩ := hx
    have e := h.e87 (g := rBegin G 1 s l) (fun b => rBegin_ne (by decide))
    refine ⟨e.1.symm, h.mut (r.begin c.1 c.2) (MV.beg ?_ (fun y hy => mBeg_at hy)) (fun a b x => rBegin_ne (by omega)) (fun a b x => mBeg_ne x)⟩
    unfold rBegin
    simp (disch := omega) only [rv, ug_at, ug_np, Nat.add_zero]
    exact ⟨trivial, trivial, trivial, trivial, trivial, trivial⟩
  · rw [if_neg c] at hp hx
    obtain ⟨rfl, rfl⟩ := hp
    obtain ⟨rfl, rfl⟩ := hx
    exact ⟨rfl, h.bad⟩
theorem cs_rule {G : Mem} (h : Rel G) {n : Int} (h_n : R32 n) : Cs M_X11_rule M_X12_rule [.int (iI n)] G := by
  have r := h.1.1
  refine Cs.mk (m_pRule h_n) (fun v g hp => m_xRule h_n) (fun v g v' k hp hx => ?_)
  by_cases c : 0 ≤ n ∧ n ≤ 2
  · rw [if_pos c] at hp hx
    obtain ⟨rfl, rfl⟩ := hp
    obtain ⟨rfl, rfl⟩ := hx
    have e := h.e87 (g := ug G 1 1 n) (fun b => ug_nc (by decide))
    refine ⟨e.2.2.1.symm, h.mut (g := ug G 1 1 n) ?_ ?_ (fun a b x => ug_nc (by omega)) (fun a b x => ug_nc x)⟩
    · rw [rv_ug0]; exact r.lw c
    · rw [rv_ug0]; exact h.2.2.1.lw (fun y => q_ne y 2 (f := G 87))
  · rw [if_neg c] at hp hx
    obtain ⟨rfl, rfl⟩ := hp
    obtain ⟨rfl, rfl⟩ := hx
    exact ⟨rfl, h.bad⟩
theorem cs_sight {G : Mem} (h : Rel G) {n : Int} (h_n : R32 n) : Cs M_X11_sight M_X12_sight [.int (iI n)] G := by
  have r := h.1.1
  refine Cs.mk (m_pSight h_n) (fun v g hp => m_xSight h_n) (fun v g v' k hp hx => ?_)
  by_cases c : 0 ≤ n ∧ n ≤ 47
  · rw [if_pos c] at hp hx
    obtain ⟨rfl, rfl⟩ := hp
    obtain ⟨rfl, rfl⟩ := hx
    have e := h.e87 (g := ug G 1 0 n) (fun b => ug_nc (by decide))
    refine ⟨e.2.1.symm, h.mut (g := ug G 1 0 n) ?_ ?_ (fun a b x => ug_nc (by omega)) (fun a b x => ug_nc x)⟩
    · rw [rv_ug0]; exact r.sg c
    · rw [rv_ug0]; exact h.2.2.1.sg (fun y => q_ne y 1 (f := G 87))
  · rw [if_neg c] at hp hx
    obtain ⟨rfl, rfl⟩ := hp
    obtain ⟨rfl, rfl⟩ := hx
    exact ⟨rfl, h.bad⟩
theorem cs_stop {G : Mem} (h : Rel G)  : Cs M_X11_stop M_X12_stop [] G := by
  have r := h.1.1
  refine Cs.mk m_pStop (fun v g hp => m_xStop) (fun v g v' k hp hx => ?_)
  obtain ⟨rfl, rfl⟩ := hp
  obtain ⟨rfl, rfl⟩ := hx
  have e := h.e87 (g := ug G 1 8 0) (fun b => ug_nc (by decide))
  refine ⟨e.2.2.2.1.symm, h.mut (g := ug G 1 8 0) ?_ ?_ (fun a b x => ug_nc (by omega)) (fun a b x => ug_nc x)⟩
  · rw [rv_ug0]; exact r.sp ⟨by decide, by decide⟩
  · rw [rv_ug0]; exact h.2.2.1.sp0 (fun y => q_ne y 3 (f := G 87))
theorem cs_forget {G : Mem} (h : Rel G)  : Cs M_X11_forget M_X12_forget [] G := by
  have r := h.1.1
  refine Cs.mk m_pForget (fun v g hp => m_xForget) (fun v g v' k hp hx => ?_)
  obtain ⟨rfl, rfl⟩ := hp
  obtain ⟨rfl, rfl⟩ := hx
  have e := h.e87 (g := ug G 1 10 0) (fun b => ug_nc (by decide))
  refine ⟨e.2.2.2.2.1.symm, h.mut (g := ug G 1 10 0) ?_ ?_ (fun a b x => ug_nc (by omega)) (fun a b x => ug_nc x)⟩
  · rw [rv_ug0]; exact r.rd ⟨by decide, by decide⟩
  · rw [rv_ug0]; exact h.2.2.1.rd0 (fun y => q_ne y 4 (f := G 87))
theorem cs_child {G : Mem} (h : Rel G) {k : Int} (h_k : R32 k) {hh : Int} (h_hh : R32 hh) {c : Int} (h_c : R32 c) {s : Int} (h_s : R32 s) {b : Int} (h_b : R32 b) : Cs M_X11_child M_X12_child [.int (iI k), .int (iI hh), .int (iI c), .int (iI s), .int (iI b)] G := by
  have r := h.1.1
  have hn : 0 ≤ G 1 2 ∧ G 1 2 ≤ 6 := r.v.2.2.1
  have eF := h.e87 (g := rF G) (fun b => rF_ne (by decide))
  have eB := h.e87 (g := rB G) (fun b => rB_ne (by decide))
  have eA := h.e87 (g := rAdd G 1 k hh c s b) (fun b => rAdd_ne (by decide))
  by_cases q : (0 ≤ k ∧ k ≤ 5) ∧ (1 ≤ hh ∧ hh ≤ 9) ∧ (0 ≤ c ∧ c ≤ 47) ∧ (0 ≤ s ∧ s ≤ 3) ∧ (0 ≤ b ∧ b ≤ 60)
  · by_cases c2 : G 1 2 < 6
    · refine Cs.mk (m_pChild hn h_k h_hh h_c h_s h_b) (fun v g hp => m_xChild ?_ h_k h_hh h_c h_s h_b) (fun v g v' k2 hp hx => ?_)
      · rw [if_pos q, if_pos c2] at hp
        rw [← hp.2, eA.1]
        exact hn
      · rw [if_pos q, if_pos c2] at hp
        rw [if_pos q] at hx
        obtain ⟨rfl, rfl⟩ := hp
        rw [if_pos (by rw [eA.1]; exact c2)] at hx
        obtain ⟨rfl, rfl⟩ := hx
        refine ⟨eA.1.symm, h.mut (g := rAdd G 1 k hh c s b) (r.add q.1 q.2.1 q.2.2.1 q.2.2.2.1 q.2.2.2.2) ?_ (fun a b x => rAdd_ne (by omega)) (fun a b x => (ug_nc x).trans (mAdd_ne x))⟩
        have mv := h.mv (g := rAdd G 1 k hh c s b) (fun b => rAdd_ne (by decide))
        have z := mv.kid r (n := (G 1 2).toNat) (by show G 1 2 = _; omega) (by omega) (k := k) (hh := hh) (c := c) (s := s) (b := b)
        have ev : rv (rAdd G 1 k hh c s b) 1 = ug (ug (ug (ug (ug (ug (ug (rv G 1) 1 (G 1 2).toNat k) 2 (G 1 2).toNat hh) 3 (G 1 2).toNat c) 4 (G 1 2).toNat s) 5 (G 1 2).toNat b) 0 2 (((G 1 2).toNat : Int) + 1)) 0 14 0 := by
          unfold rAdd
          rw [if_neg (by omega), rv_ug0, rv_ug0, rv_ug, rv_ug, rv_ug, rv_ug, rv_ug, show (((G 1 2).toNat : Nat) : Int) = G 1 2 by omega]
        rw [ev]
        exact z
    · refine Cs.mk (m_pChild hn h_k h_hh h_c h_s h_b) (fun v g hp => m_xChild ?_ h_k h_hh h_c h_s h_b) (fun v g v' k2 hp hx => ?_)
      · rw [if_pos q, if_neg c2] at hp
        rw [← hp.2, eF.1]
        exact hn
      · rw [if_pos q, if_neg c2] at hp
        rw [if_pos q] at hx
        obtain ⟨rfl, rfl⟩ := hp
        rw [if_neg (by rw [eF.1]; exact c2)] at hx
        obtain ⟨rfl, rfl⟩ := hx
        exact ⟨rfl, h.full⟩
  · refine Cs.mk (m_pChild hn h_k h_hh h_c h_s h_b) (fun v g hp => m_xChild ?_ h_k h_hh h_c h_s h_b) (fun v g v' k2 hp hx => ?_)
    · rw [if_neg q] at hp
      rw [← hp.2, eB.1]
      exact hn
    · rw [if_neg q] at hp hx
      obtain ⟨rfl, rfl⟩ := hp
      obtain ⟨rfl, rfl⟩ := hx
      exact ⟨rfl, h.bad⟩
theorem cs_speed {G : Mem} (h : Rel G) {n : Int} (h_n : R32 n) : Cs M_X11_speed M_X12_speed [.int (iI n)] G := by
  have r := h.1.1
  have hn : 0 ≤ G 1 8 ∧ G 1 8 ≤ 20 := r.s.1
  have eF := h.e87 (g := rF G) (fun b => rF_ne (by decide))
  have eB := h.e87 (g := rB G) (fun b => rB_ne (by decide))
  have eA := h.e87 (g := ug (ug G (1 + 6) (G 1 8).toNat n) 1 8 (G 1 8 + 1)) (fun b => (ug_nc (by decide)).trans (ug_nc (by decide)))
  refine Cs.mk (m_pSpeed hn h_n) (fun v g hp => m_xSpeed (G := g) ?_ h_n) (fun v g v' k hp hx => ?_)
  · by_cases c : 0 ≤ n ∧ n ≤ 15
    · rw [if_pos c] at hp
      by_cases c2 : G 1 8 < 20
      · rw [if_pos c2] at hp
        rw [← hp.2, eA.2.2.2.1]; exact hn
      · rw [if_neg c2] at hp
        rw [← hp.2, eF.2.2.2.1]; exact hn
    · rw [if_neg c] at hp
      rw [← hp.2, eB.2.2.2.1]; exact hn
  by_cases c : 0 ≤ n ∧ n ≤ 15
  · rw [if_pos c] at hp hx
    by_cases c2 : G 1 8 < 20
    · rw [if_pos c2] at hp
      obtain ⟨rfl, rfl⟩ := hp
      rw [if_pos (by rw [eA.2.2.2.1]; exact c2), eA.2.2.2.1] at hx
      obtain ⟨rfl, rfl⟩ := hx
      have mv := h.mv (g := ug (ug G (1 + 6) (G 1 8).toNat n) 1 8 (G 1 8 + 1)) (fun b => (ug_nc (by decide)).trans (ug_nc (by decide)))
      have z := mv.spd r (n := (G 1 8).toNat) (by show G 1 8 = _; omega) (by omega) (v := n)
      have ev : rv (ug (ug G (1 + 6) (G 1 8).toNat n) 1 8 (G 1 8 + 1)) 1 = ug (ug (rv G 1) 6 (G 1 8).toNat n) 0 8 (((G 1 8).toNat : Int) + 1) := by
        rw [rv_ug0, rv_ug, show (((G 1 8).toNat : Nat) : Int) = G 1 8 by omega]
      refine ⟨rfl, h.mut (g := ug (ug G (1 + 6) (G 1 8).toNat n) 1 8 (G 1 8 + 1)) ?_ ?_ (fun a b x => (ug_nc (by omega)).trans (ug_nc (by omega))) (fun a b x => (ug_nc x).trans (ug_nc x))⟩
      · rw [ev]; exact (r.spd (by omega) c).sp (by omega)
      · rw [ev, show G 1 8 + 1 = ((G 1 8).toNat : Int) + 1 by omega]
        rw [show G 1 8 + 1 = ((G 1 8).toNat : Int) + 1 by omega] at z
        exact z
    · rw [if_neg c2] at hp
      obtain ⟨rfl, rfl⟩ := hp
      rw [if_neg (by rw [eF.2.2.2.1]; exact c2)] at hx
      obtain ⟨rfl, rfl⟩ := hx
      exact ⟨rfl, h.full⟩
  · rw [if_neg c] at hp hx
    obtain ⟨rfl, rfl⟩ := hp
    obtain ⟨rfl, rfl⟩ := hx
    exact ⟨rfl, h.bad⟩
theorem cs_reading {G : Mem} (h : Rel G) {c : Int} (h_c : R32 c) {t : Int} (h_t : R32 t) {x : Int} (h_x : R32 x) : Cs M_X11_reading M_X12_reading [.int (iI c), .int (iI t), .int (iI x)] G := by
  have r := h.1.1
  have hn : 0 ≤ G 1 10 ∧ G 1 10 ≤ 6 := r.d.1
  have eF := h.e87 (g := rF G) (fun b => rF_ne (by decide))
  have eB := h.e87 (g := rB G) (fun b => rB_ne (by decide))
  have nA : ∀ a b, ¬ (1 ≤ a ∧ a ≤ 13) → rRdg G 1 c t x a b = G a b := fun a b x => by
    unfold rRdg
    split
    · rfl
    · rw [ug_nc (by omega), ug_nc (by omega), ug_nc (by omega), ug_nc (by omega)]
  have eA := h.e87 (g := rRdg G 1 c t x) (fun b => nA 87 b (by decide))
  refine Cs.mk (m_pReading hn h_c h_t h_x) (fun v g hp => m_xReading (G := g) ?_ h_c h_t h_x) (fun v g v' k hp hx => ?_)
  · by_cases c1 : (0 ≤ c ∧ c ≤ 47) ∧ (0 ≤ t ∧ t ≤ 59) ∧ (1 ≤ x ∧ x ≤ 9)
    · rw [if_pos c1] at hp
      by_cases c2 : G 1 10 < 6
      · rw [if_pos c2] at hp
        rw [← hp.2, eA.2.2.2.2.1]; exact hn
      · rw [if_neg c2] at hp
        rw [← hp.2, eF.2.2.2.2.1]; exact hn
    · rw [if_neg c1] at hp
      rw [← hp.2, eB.2.2.2.2.1]; exact hn
  by_cases c1 : (0 ≤ c ∧ c ≤ 47) ∧ (0 ≤ t ∧ t ≤ 59) ∧ (1 ≤ x ∧ x ≤ 9)
  · rw [if_pos c1] at hp hx
    by_cases c2 : G 1 10 < 6
    · rw [if_pos c2] at hp
      obtain ⟨rfl, rfl⟩ := hp
      rw [if_pos (by rw [eA.2.2.2.2.1]; exact c2), eA.2.2.2.2.1] at hx
      obtain ⟨rfl, rfl⟩ := hx
      have mv := h.mv (g := rRdg G 1 c t x) (fun b => nA 87 b (by decide))
      have z := mv.rdg r (n := (G 1 10).toNat) (by show G 1 10 = _; omega) (by omega) (c := c) (t := t) (v := x)
      have ev : rv (rRdg G 1 c t x) 1 = ug (ug (ug (ug (rv G 1) 7 (G 1 10).toNat c) 8 (G 1 10).toNat t) 9 (G 1 10).toNat x) 0 10 (((G 1 10).toNat : Int) + 1) := by
        unfold rRdg
        rw [if_neg (by omega), rv_ug0, rv_ug, rv_ug, rv_ug, show (((G 1 10).toNat : Nat) : Int) = G 1 10 by omega]
      rw [show (((G 1 10).toNat : Nat) : Int) = G 1 10 by omega] at z ev
      refine ⟨rfl, h.mut (g := rRdg G 1 c t x) ?_ ?_ nA (fun a b q => (ug_nc q).trans ((ug_nc q).trans ((ug_nc q).trans (ug_nc q))))⟩
      · rw [ev]; exact (r.rdg (by omega) c1.1 c1.2.1 (by omega)).rd (by omega)
      · rw [ev]; exact z
    · rw [if_neg c2] at hp
      obtain ⟨rfl, rfl⟩ := hp
      rw [if_neg (by rw [eF.2.2.2.2.1]; exact c2)] at hx
      obtain ⟨rfl, rfl⟩ := hx
      exact ⟨rfl, h.full⟩
  · rw [if_neg c1] at hp hx
    obtain ⟨rfl, rfl⟩ := hp
    obtain ⟨rfl, rfl⟩ := hx
    exact ⟨rfl, h.bad⟩
theorem rPush_ne {G : Mem} {r n a b' : Nat} {c b w : Int} (h : a < r ∨ r + 12 < a) : rPush G r n c b w a b' = G a b' := by
  unfold rPush
  rw [ug_nc (by omega), ug_nc (by omega), ug_nc (by omega), ug_nc (by omega)]
theorem rSh_ne {G : Mem} {r a b : Nat} (h : a < r ∨ r + 12 < a) : rSh G r a b = G a b := by
  unfold rSh
  rw [ug_nc (by omega)]
  unfold cg
  rw [if_neg (fun q => by omega), if_neg (fun q => by omega), if_neg (fun q => by omega)]
theorem rKeep_ne {G : Mem} {r a b' : Nat} {c b w : Int} (h : a < r ∨ r + 12 < a) : rKeep G r c b w a b' = G a b' := by
  unfold rKeep
  split
  · rw [rPush_ne h, rSh_ne h]
  · exact rPush_ne h
theorem sn_ne {G : Mem} {u c x y : Nat} (h : x ≠ 87) : sn G u c x y = G x y := if_neg (fun q => h q.1)
theorem ks_ne {G : Mem} {k x y : Nat} (h : x ≠ 87) : ks G k x y = G x y := if_neg (fun q => h q.1)
theorem mKeep_ne {G : Mem} {x y : Nat} (h : x ≠ 87) : mKeep G x y = G x y := by
  unfold mKeep
  split
  · rw [ug_nc h, sn_ne h, ug_nc h, ks_ne h]
  · rw [ug_nc h, sn_ne h]
theorem ud_ne {G : Mem} {u c x y : Nat} (h : x ≠ 87) : ud G u c x y = G x y := if_neg (fun q => h q.1)
theorem sn_87 {G g : Mem} {u c : Nat} (h : ∀ y, g 87 y = G 87 y) (y : Nat) : sn g u c 87 y = sn G u c 87 y := by
  unfold sn
  split
  · exact h _
  · exact h y
theorem rv_push {G : Mem} {r n : Nat} {c b w : Int} : rv (rPush G r n c b w) r = ug (ug (ug (ug (rv G r) 10 n c) 11 n b) 12 n w) 0 14 ((n : Int) + 1) := by
  unfold rPush
  rw [rv_ug0, rv_ug, rv_ug, rv_ug]
/-- a move is kept, by both -/
theorem Rel.keep {G g : Mem} (h : Rel G) (mv : MV (rv G 1) (g 87)) {c : Nat} (hc : (c : Int) < G 1 2) {b w : Int} (hw : (b = 0 ∧ w = G (1 + 3) c) ∨ (b = 1 ∧ w = G (1 + 5) c)) : Rok (rv (rKeep G 1 (c : Int) b w) 1) ∧ MV (rv (rKeep G 1 (c : Int) b w) 1) (mKeep g 87) ∧ ∃ u : Nat, rv (rKeep G 1 (c : Int) b w) 1 0 14 = (u : Int) + 1 ∧ rv (rKeep G 1 (c : Int) b w) 1 10 u = (c : Int) ∧ rv (rKeep G 1 (c : Int) b w) 1 11 u = b := by
  have r := h.1.1
  have h14 : 0 ≤ G 1 14 ∧ G 1 14 ≤ 8 := r.u.1
  have hn : 0 ≤ G 1 2 ∧ G 1 2 ≤ 6 := r.v.2.2.1
  have hcell : 0 ≤ G (1 + 3) c ∧ G (1 + 3) c ≤ 47 := (r.v.2.2.2 c).2.2.1
  have hbed : 0 ≤ G (1 + 5) c ∧ G (1 + 5) c ≤ 60 := (r.v.2.2.2 c).2.2.2.2.1
  have hbw : (b = 0 ∧ 0 ≤ w ∧ w ≤ 47) ∨ (b = 1 ∧ 0 ≤ w ∧ w ≤ 60) := by omega
  have e5 : g 87 5 = G 1 14 := mv.1.2.2.2.2.2
  unfold rKeep mKeep
  by_cases e : 8 ≤ G 1 14
  · have e8 : G 1 14 = 8 := by omega
    rw [if_pos e, if_pos (show g 87 5 = 8 by omega)]
    have mv1 := mv.sh r e8
    have r1 := r.sh
    rw [← rv_sh] at mv1 r1
    rw [rv_push]
    have z := mv1.push r1 (u := 7) (by rw [rv_sh]; exact ug_at) (by decide) (c := c) (b := b) (w := w) (by
      have q3 : rv (rSh G 1) 1 3 c = G (1 + 3) c := by rw [rv_sh]; rfl
      have q5 : rv (rSh G 1) 1 5 c = G (1 + 5) c := by rw [rv_sh]; rfl
      rw [q3, q5]; exact hw)
    refine ⟨r1.push (by decide) (by omega) hbw, z, 7, by rw [ug_at], ?_, ?_⟩
    · rw [ug_nc (by decide), ug_nc (by decide), ug_nc (by decide), ug_at]
    · rw [ug_nc (by decide), ug_nc (by decide), ug_at]
  · rw [if_neg e, if_neg (show ¬ g 87 5 = 8 by omega), e5]
    rw [rv_push]
    have z := mv.push r (u := (G 1 14).toNat) (by show G 1 14 = _; omega) (by omega) (c := c) (b := b) (w := w) hw
    rw [show G 1 14 + 1 = ((G 1 14).toNat : Int) + 1 by omega]
    refine ⟨r.push (by omega) (by omega) hbw, z, (G 1 14).toNat, by rw [ug_at], ?_, ?_⟩
    · rw [ug_nc (by decide), ug_nc (by decide), ug_nc (by decide), ug_at]
    · rw [ug_nc (by decide), ug_nc (by decide), ug_at]
theorem cs_stand {G : Mem} (h : Rel G) {c : Int} (h_c : R32 c) {x : Int} (h_x : R32 x) : Cs M_X11_stand M_X12_stand [.int (iI c), .int (iI x)] G := by
  have r := h.1.1
  have h14 : 0 ≤ G 1 14 ∧ G 1 14 ≤ 8 := r.u.1
  have hn : 0 ≤ G 1 2 ∧ G 1 2 ≤ 6 := r.v.2.2.1
  have eB := h.e87 (g := rB G) (fun b => rB_ne (by decide))
  have nA : ∀ a b, ¬ (1 ≤ a ∧ a ≤ 13) → ug (rKeep G 1 c 0 (G (1 + 3) c.toNat)) (1 + 3) c.toNat x a b = G a b := fun a b q => (ug_nc (by omega)).trans (rKeep_ne (by omega))
  have eA := h.e87 (g := ug (rKeep G 1 c 0 (G (1 + 3) c.toNat)) (1 + 3) c.toNat x) (fun b => nA 87 b (by decide))
  by_cases q : (0 ≤ c ∧ c ≤ G 1 2 - 1) ∧ (0 ≤ x ∧ x ≤ 47)
  · refine Cs.mk (m_pStand hn h14 (fun j => (r.u.2 j).1) h_c h_x) (fun v g hp => m_xStand (G := g) ?_ ?_ h_c h_x) (fun v g v' k hp hx => ?_)
    · rw [if_pos q] at hp
      rw [← hp.2, eA.1]; exact hn
    · rw [if_pos q] at hp
      rw [← hp.2, eA.2.2.2.2.2]; exact h14
    · rw [if_pos q] at hp
      obtain ⟨rfl, rfl⟩ := hp
      rw [if_pos (by rw [eA.1]; exact q)] at hx
      obtain ⟨rfl, rfl⟩ := hx
      obtain ⟨cn, rfl⟩ : ∃ n : Nat, c = (n : Int) := ⟨c.toNat, by omega⟩
      rw [Int.toNat_natCast] at *
      have mv := h.mv (g := ug (rKeep G 1 (cn : Int) 0 (G (1 + 3) cn)) (1 + 3) cn x) (fun b => nA 87 b (by decide))
      have hk := h.keep mv (c := cn) (by omega) (b := 0) (w := G (1 + 3) cn) (by simp)
      obtain ⟨k1, k2, u, k3, k4, k5⟩ := hk
      have zc := (mv.2.1 cn (by show (cn : Int) < G 1 2; omega))
      refine ⟨zc.2.2.1.symm, h.mut (g := ug (rKeep G 1 (cn : Int) 0 (G (1 + 3) cn)) (1 + 3) cn x) ?_ ?_ nA (fun a b y => (ug_nc y).trans (mKeep_ne y))⟩
      · rw [rv_ug]; exact k1.cell (by omega) q.2
      · rw [rv_ug]; exact k2.cell k1 k3 k4 k5
  · refine Cs.mk (m_pStand hn h14 (fun j => (r.u.2 j).1) h_c h_x) (fun v g hp => m_xStand (G := g) ?_ ?_ h_c h_x) (fun v g v' k hp hx => ?_)
    · rw [if_neg q] at hp
      rw [← hp.2, eB.1]; exact hn
    · rw [if_neg q] at hp
      rw [← hp.2, eB.2.2.2.2.2]; exact h14
    · rw [if_neg q] at hp
      obtain ⟨rfl, rfl⟩ := hp
      rw [if_neg (by rw [eB.1]; exact q)] at hx
      obtain ⟨rfl, rfl⟩ := hx
      exact ⟨rfl, h.bad⟩
theorem cs_bed {G : Mem} (h : Rel G) {c : Int} (h_c : R32 c) {x : Int} (h_x : R32 x) : Cs M_X11_bed M_X12_bed [.int (iI c), .int (iI x)] G := by
  have r := h.1.1
  have h14 : 0 ≤ G 1 14 ∧ G 1 14 ≤ 8 := r.u.1
  have hn : 0 ≤ G 1 2 ∧ G 1 2 ≤ 6 := r.v.2.2.1
  have eB := h.e87 (g := rB G) (fun b => rB_ne (by decide))
  have nA : ∀ a b, ¬ (1 ≤ a ∧ a ≤ 13) → ug (rKeep G 1 c 1 (G (1 + 5) c.toNat)) (1 + 5) c.toNat x a b = G a b := fun a b q => (ug_nc (by omega)).trans (rKeep_ne (by omega))
  have eA := h.e87 (g := ug (rKeep G 1 c 1 (G (1 + 5) c.toNat)) (1 + 5) c.toNat x) (fun b => nA 87 b (by decide))
  by_cases q : (0 ≤ c ∧ c ≤ G 1 2 - 1) ∧ (0 ≤ x ∧ x ≤ 60)
  · refine Cs.mk (m_pBed hn h14 (fun j => (r.u.2 j).1) h_c h_x) (fun v g hp => m_xBed (G := g) ?_ ?_ h_c h_x) (fun v g v' k hp hx => ?_)
    · rw [if_pos q] at hp
      rw [← hp.2, eA.1]; exact hn
    · rw [if_pos q] at hp
      rw [← hp.2, eA.2.2.2.2.2]; exact h14
    · rw [if_pos q] at hp
      obtain ⟨rfl, rfl⟩ := hp
      rw [if_pos (by rw [eA.1]; exact q)] at hx
      obtain ⟨rfl, rfl⟩ := hx
      obtain ⟨cn, rfl⟩ : ∃ n : Nat, c = (n : Int) := ⟨c.toNat, by omega⟩
      rw [Int.toNat_natCast] at *
      have mv := h.mv (g := ug (rKeep G 1 (cn : Int) 1 (G (1 + 5) cn)) (1 + 5) cn x) (fun b => nA 87 b (by decide))
      have hk := h.keep mv (c := cn) (by omega) (b := 1) (w := G (1 + 5) cn) (by simp)
      obtain ⟨k1, k2, u, k3, k4, k5⟩ := hk
      have zc := (mv.2.1 cn (by show (cn : Int) < G 1 2; omega))
      refine ⟨zc.2.2.2.2.symm, h.mut (g := ug (rKeep G 1 (cn : Int) 1 (G (1 + 5) cn)) (1 + 5) cn x) ?_ ?_ nA (fun a b y => (ug_nc y).trans (mKeep_ne y))⟩
      · rw [rv_ug]; exact k1.bed (by omega) q.2
      · rw [rv_ug]; exact k2.bed k1 k3 k4 k5
  · refine Cs.mk (m_pBed hn h14 (fun j => (r.u.2 j).1) h_c h_x) (fun v g hp => m_xBed (G := g) ?_ ?_ h_c h_x) (fun v g v' k hp hx => ?_)
    · rw [if_neg q] at hp
      rw [← hp.2, eB.1]; exact hn
    · rw [if_neg q] at hp
      rw [← hp.2, eB.2.2.2.2.2]; exact h14
    · rw [if_neg q] at hp
      obtain ⟨rfl, rfl⟩ := hp
      rw [if_neg (by rw [eB.1]; exact q)] at hx
      obtain ⟨rfl, rfl⟩ := hx
      exact ⟨rfl, h.bad⟩
theorem cs_undo {G : Mem} (h : Rel G)  : Cs M_X11_undo M_X12_undo [] G := by
  have r := h.1.1
  have h14 : 0 ≤ G 1 14 ∧ G 1 14 ≤ 8 := r.u.1
  have eN := h.e87 (g := rN G) (fun b => rN_ne (by decide))
  have nA : ∀ a b, ¬ (1 ≤ a ∧ a ≤ 13) → rUndo G 1 a b = G a b := fun a b q => by
    unfold rUndo
    split
    · rfl
    · split
      · rw [ug_nc (by omega), ug_nc (by omega)]
      · rw [ug_nc (by omega), ug_nc (by omega)]
  have eA := h.e87 (g := rUndo G 1) (fun b => nA 87 b (by decide))
  by_cases c : 0 < G 1 14
  · refine Cs.mk (m_pUndo h14 (fun j => (r.u.2 j).1) (fun j => (r.u.2 j).2.1)) (fun v g hp => m_xUndo (G := g) ?_) (fun v g v' k hp hx => ?_)
    · rw [if_pos c] at hp
      rw [← hp.2, eA.2.2.2.2.2]; exact h14
    · rw [if_pos c] at hp
      obtain ⟨rfl, rfl⟩ := hp
      rw [if_pos (by rw [eA.2.2.2.2.2]; exact c)] at hx
      obtain ⟨rfl, rfl⟩ := hx
      have mv := h.mv (g := rUndo G 1) (fun b => nA 87 b (by decide))
      have hun : rv G 1 0 14 = (((G 1 14 - 1).toNat : Nat) : Int) + 1 := by show G 1 14 = _; omega
      have ev : rv (rUndo G 1) 1 = vUn (rv G 1) (G 1 14 - 1).toNat := by
        unfold rUndo vUn
        rw [if_neg (by omega), show (((G 1 14 - 1).toNat : Nat) : Int) = G 1 14 - 1 by omega]
        by_cases q : G (1 + 11) (G 1 14 - 1).toNat = 0
        · rw [if_pos q, if_pos q, rv_ug, rv_ug0]
        · rw [if_neg q, if_neg q, rv_ug, rv_ug0]
      have z := mv.und r hun
      refine ⟨?_, h.mut (g := rUndo G 1) ?_ ?_ nA (fun a b y => (ud_ne y).trans (ug_nc y))⟩
      · rw [eA.2.2.2.2.2]
        show rv (rUndo G 1) 1 0 14 = _
        rw [ev, vUn_s (by decide) (by decide), ug_at]
        omega
      · rw [ev]; exact r.und hun
      · rw [ev]
        unfold mUndo
        rw [eA.2.2.2.2.2]
        rw [show (((G 1 14 - 1).toNat : Nat) : Int) = G 1 14 - 1 by omega] at z
        exact z
  · refine Cs.mk (m_pUndo h14 (fun j => (r.u.2 j).1) (fun j => (r.u.2 j).2.1)) (fun v g hp => m_xUndo (G := g) ?_) (fun v g v' k hp hx => ?_)
    · rw [if_neg c] at hp
      rw [← hp.2, eN.2.2.2.2.2]; exact h14
    · rw [if_neg c] at hp
      obtain ⟨rfl, rfl⟩ := hp
      rw [if_neg (by rw [eN.2.2.2.2.2]; exact c)] at hx
      obtain ⟨rfl, rfl⟩ := hx
      exact ⟨rfl, h.no⟩
