/-! ===== each call: one answer, and the relation again ===== -/
theorem rB_ne {G : Mem} {a b : Nat} (h : a ≠ 0) : rB G a b = G a b := ug_nc h
theorem rN_ne {G : Mem} {a b : Nat} (h : a ≠ 0) : rN G a b = G a b := ug_nc h
theorem rF_ne {G : Mem} {a b : Nat} (h : a ≠ 0) : rF G a b = G a b := ug_nc h
theorem Rel.mv {G g : Mem} (h : Rel G) (e : ∀ b, g 87 b = G 87 b) : MV (rv G 1) (g 87) := by
  rw [funext e]
  exact h.2.2.1
theorem Rel.mut {G g k : Mem} (h : Rel G) (hr : Rok (rv g 1)) (hm : MV (rv g 1) (k 87)) (eg : ∀ a b, ¬ (1 ≤ a ∧ a ≤ 13) → g a b = G a b) (ek : ∀ a b, a ≠ 87 → k a b = g a b) : Rel k :=
  h.now (h.2.1.c (fun a b x => (ek a b (by omega)).trans (eg a b (by omega)))) (hr.c (veq_of (fun a b x y => ek a b (by omega)))) (hm.c hr (veq_of (fun a b x y => ek a b (by omega))) (fun _ _ => rfl)) (fun a b x y z _ _ _ => (ek a b z).trans (eg a b (by omega)))
theorem cs_where {G : Mem} (h : Rel G) {a : Int} (h_a : R32 a) {m : Int} (h_m : R32 m) : Cs M_X11_where M_X12_where [.int (iI a), .int (iI m)] G := by
  have r := h.1.1
  refine Cs.mk (m_pWhere r.v h.2.1.2.2.1 h_a h_m) (Pm := fun g v' k => if (0 ≤ a ∧ a ≤ 59) ∧ (0 ≤ m ∧ m ≤ 60) then (if m < a then (-1 = v' ∧ SC g k) else (vWhere (rv G 1) (m - a).toNat a 0 = v' ∧ SC g k)) else (-2 = v' ∧ xB g = k)) (fun v g hp => m_xWhere r.v (h.mv (fun b => ?_)).nw h_a h_m) (fun v g v' k hp hx => ?_)
  · by_cases c : (0 ≤ a ∧ a ≤ 59) ∧ (0 ≤ m ∧ m ≤ 60)
    · rw [if_pos c] at hp
      by_cases c2 : m < a
      · rw [if_pos c2] at hp
        rw [← hp.2]
      · rw [if_neg c2] at hp
        exact hp.2.1 87 b (by decide) (by decide)
    · rw [if_neg c] at hp
      rw [← hp.2]
      exact rB_ne (by decide)
  · by_cases c : (0 ≤ a ∧ a ≤ 59) ∧ (0 ≤ m ∧ m ≤ 60)
    · rw [if_pos c] at hp hx
      by_cases c2 : m < a
      · rw [if_pos c2] at hp hx
        obtain ⟨rfl, rfl⟩ := hp
        exact ⟨hx.1, h.q (fun _ _ _ _ => rfl) h.2.1 hx.2⟩
      · rw [if_neg c2] at hp hx
        obtain ⟨rfl, hl⟩ := hp
        exact ⟨hx.1, h.q (fun a b x y => hl.1 a b (by omega) (by omega)) (h.2.1.li (by decide) hl) hx.2⟩
    · rw [if_neg c] at hp hx
      obtain ⟨rfl, rfl⟩ := hp
      obtain ⟨rfl, rfl⟩ := hx
      exact ⟨rfl, h.bad⟩
theorem cs_there {G : Mem} (h : Rel G) {a : Int} (h_a : R32 a) : Cs M_X11_there M_X12_there [.int (iI a)] G := by
  have r := h.1.1
  refine Cs.mk (m_pThere r.v h.2.1.2.2.1 h_a) (Pm := fun g v' k => if 0 ≤ a ∧ a ≤ 59 then ((if vThere (rv G 1) (vAll (rv G 1)) a = 61 then -1 else vThere (rv G 1) (vAll (rv G 1)) a) = v' ∧ SC g k) else (-2 = v' ∧ xB g = k)) (fun v g hp => m_xThere r.v (h.mv (fun b => ?_)).nw h_a) (fun v g v' k hp hx => ?_)
  · by_cases c : 0 ≤ a ∧ a ≤ 59
    · rw [if_pos c] at hp
      obtain ⟨hv, hl⟩ := hp
      exact hl.1 87 b (by decide) (by decide)
    · rw [if_neg c] at hp
      rw [← hp.2]
      exact rB_ne (by decide)
  · by_cases c : 0 ≤ a ∧ a ≤ 59
    · rw [if_pos c] at hp hx
      obtain ⟨hv, hl⟩ := hp
      exact ⟨hv.symm.trans hx.1, h.q (fun a b x y => hl.1 a b (by omega) (by omega)) (h.2.1.li (by decide) hl) hx.2⟩
    · rw [if_neg c] at hp hx
      obtain ⟨rfl, rfl⟩ := hp
      obtain ⟨rfl, rfl⟩ := hx
      exact ⟨rfl, h.bad⟩
theorem cs_soonest {G : Mem} (h : Rel G) {a : Int} (h_a : R32 a) : Cs M_X11_soonest M_X12_soonest [.int (iI a)] G := by
  have r := h.1.1
  refine Cs.mk (m_pSoonest r.v h.2.1.2.2.1 h_a) (Pm := fun g v' k => if 0 ≤ a ∧ a ≤ 59 then ((if vSoonest (rv G 1) (vAll (rv G 1)) a = 61 then -1 else vSoonest (rv G 1) (vAll (rv G 1)) a) = v' ∧ SC g k) else (-2 = v' ∧ xB g = k)) (fun v g hp => m_xSoonest r.v (h.mv (fun b => ?_)).nw h_a) (fun v g v' k hp hx => ?_)
  · by_cases c : 0 ≤ a ∧ a ≤ 59
    · rw [if_pos c] at hp
      obtain ⟨hv, hl⟩ := hp
      exact hl.1 87 b (by decide) (by decide)
    · rw [if_neg c] at hp
      rw [← hp.2]
      exact rB_ne (by decide)
  · by_cases c : 0 ≤ a ∧ a ≤ 59
    · rw [if_pos c] at hp hx
      obtain ⟨hv, hl⟩ := hp
      exact ⟨hv.symm.trans hx.1, h.q (fun a b x y => hl.1 a b (by omega) (by omega)) (h.2.1.li (by decide) hl) hx.2⟩
    · rw [if_neg c] at hp hx
      obtain ⟨rfl, rfl⟩ := hp
      obtain ⟨rfl, rfl⟩ := hx
      exact ⟨rfl, h.bad⟩
theorem cs_start {G : Mem} (h : Rel G) {a : Int} (h_a : R32 a) : Cs M_X11_start M_X12_start [.int (iI a)] G := by
  have r := h.1.1
  refine Cs.mk (m_pStart r.v h.2.1.2.2.1 h_a) (Pm := fun g v' k => if 0 ≤ a ∧ a ≤ 59 then (vStart (rv G 1) (60 - a).toNat a (-1) 60 = v' ∧ SC g k) else (-2 = v' ∧ xB g = k)) (fun v g hp => m_xStart r.v (h.mv (fun b => ?_)).nw h_a) (fun v g v' k hp hx => ?_)
  · by_cases c : 0 ≤ a ∧ a ≤ 59
    · rw [if_pos c] at hp
      obtain ⟨hv, hl⟩ := hp
      exact hl.1 87 b (by decide) (by decide)
    · rw [if_neg c] at hp
      rw [← hp.2]
      exact rB_ne (by decide)
  · by_cases c : 0 ≤ a ∧ a ≤ 59
    · rw [if_pos c] at hp hx
      obtain ⟨hv, hl⟩ := hp
      exact ⟨hv.symm.trans hx.1, h.q (fun a b x y => hl.1 a b (by omega) (by omega)) (h.2.1.li (by decide) hl) hx.2⟩
    · rw [if_neg c] at hp hx
      obtain ⟨rfl, rfl⟩ := hp
      obtain ⟨rfl, rfl⟩ := hx
      exact ⟨rfl, h.bad⟩
theorem cs_limit {G : Mem} (h : Rel G) {x : Int} (h_x : R32 x) {t : Int} (h_t : R32 t) {w : Int} (h_w : R32 w) : Cs M_X11_limit M_X12_limit [.int (iI x), .int (iI t), .int (iI w)] G := by
  have r := h.1.1
  refine Cs.mk (m_pLimit r.v h.2.1.2.1 h_x h_t h_w) (Pm := fun g v' k => if (0 ≤ x ∧ x ≤ 47) ∧ (0 ≤ t ∧ t ≤ 59) ∧ (0 ≤ w ∧ w ≤ 1) then ((if w = 0 then vLim (rv G 1) t (vAll (rv G 1)) x else nbI (q_nb (rv G 1 0 0) (vP (rv G 1) t) (vH (rv G 1) t) (vAll (rv G 1)) x (-1) (rv G 1 0 2).toNat)) = v' ∧ SC g k) else (-10 = v' ∧ xB g = k)) (fun v g hp => m_xLimit r.v (h.mv (fun b => ?_)).nw h_x h_t h_w) (fun v g v' k hp hx => ?_)
  · by_cases c : (0 ≤ x ∧ x ≤ 47) ∧ (0 ≤ t ∧ t ≤ 59) ∧ (0 ≤ w ∧ w ≤ 1)
    · rw [if_pos c] at hp
      obtain ⟨hv, hl⟩ := hp
      exact hl.1 87 b (by decide) (by decide)
    · rw [if_neg c] at hp
      rw [← hp.2]
      exact rB_ne (by decide)
  · by_cases c : (0 ≤ x ∧ x ≤ 47) ∧ (0 ≤ t ∧ t ≤ 59) ∧ (0 ≤ w ∧ w ≤ 1)
    · rw [if_pos c] at hp hx
      obtain ⟨hv, hl⟩ := hp
      exact ⟨hv.symm.trans hx.1, h.q (fun a b x y => hl.1 a b (by omega) (by omega)) (h.2.1.li (by decide) hl) hx.2⟩
    · rw [if_neg c] at hp hx
      obtain ⟨rfl, rfl⟩ := hp
      obtain ⟨rfl, rfl⟩ := hx
      exact ⟨rfl, h.bad⟩
theorem cs_fined {G : Mem} (h : Rel G) {a : Int} (h_a : R32 a) {w : Int} (h_w : R32 w) : Cs M_X11_fined M_X12_fined [.int (iI a), .int (iI w)] G := by
  have r := h.1.1
  refine Cs.mk (m_pFined r.v h.2.1.2.2.1 r.s h_a h_w) (Pm := fun g v' k => if (0 ≤ a ∧ a ≤ 59) ∧ (0 ≤ w ∧ w ≤ 2) then ((if w = 0 then vFi (rv G 1) a (vNs (rv G 1) a) else if w = 1 then vFe (rv G 1) a (vNs (rv G 1) a) else ((vPa (rv G 1) a (vNs (rv G 1) a) : Nat) : Int)) = v' ∧ SC g k) else (-10 = v' ∧ xB g = k)) (fun v g hp => have mv := (h.mv (fun b => ?_)); m_xFined r.v r.s mv.nw mv.sp h_a h_w) (fun v g v' k hp hx => ?_)
  · by_cases c : (0 ≤ a ∧ a ≤ 59) ∧ (0 ≤ w ∧ w ≤ 2)
    · rw [if_pos c] at hp
      obtain ⟨hv, hl⟩ := hp
      exact hl.1 87 b (by decide) (by decide)
    · rw [if_neg c] at hp
      rw [← hp.2]
      exact rB_ne (by decide)
  · by_cases c : (0 ≤ a ∧ a ≤ 59) ∧ (0 ≤ w ∧ w ≤ 2)
    · rw [if_pos c] at hp hx
      obtain ⟨hv, hl⟩ := hp
      refine ⟨hv.symm.trans (Eq.trans ?_ hx.1), h.q (fun a b x y => hl.1 a b (by omega) (by omega)) (h.2.1.li (by decide) hl) hx.2⟩
      rcases (show w = 0 ∨ w = 1 ∨ w = 2 by omega) with rfl | rfl | rfl <;> rfl
    · rw [if_neg c] at hp hx
      obtain ⟨rfl, rfl⟩ := hp
      obtain ⟨rfl, rfl⟩ := hx
      exact ⟨rfl, h.bad⟩
theorem vBed_2 {V : Mem} (hV : Vok V) {a h : Int} : ∀ k, (vBed V a h k).2 = vSoonest V (vAll V &&& (63 ^^^ (vBed V a h k).1)) a
  | 0 => by
    show vSoonest V (vAll V) a = vSoonest V (vAll V &&& (63 ^^^ 0)) a
    rw [and_0 _ (vAll_lt hV)]
  | k + 1 => by
    have e := vBed.eq_2 V a h k
    rw [e]
    split
    · rfl
    · exact vBed_2 hV k
theorem cs_toBed {G : Mem} (h : Rel G) {a : Int} (h_a : R32 a) {x : Int} (h_x : R32 x) {w : Int} (h_w : R32 w) : Cs M_X11_toBed M_X12_toBed [.int (iI a), .int (iI x), .int (iI w)] G := by
  have r := h.1.1
  refine Cs.mk (m_pToBed r.v h.2.1.2.2.1 h_a h_x h_w) (Pm := fun g v' k => if (0 ≤ a ∧ a ≤ 59) ∧ (0 ≤ x ∧ x ≤ 6) ∧ (0 ≤ w ∧ w ≤ 1) then ((if w = 0 then (((vBed (rv G 1) a x (vAll (rv G 1))).1 : Nat) : Int) else (vBed (rv G 1) a x (vAll (rv G 1))).2) = v' ∧ SC g k) else (-2 = v' ∧ xB g = k)) (fun v g hp => m_xToBed r.v (h.mv (fun b => ?_)).nw h_a h_x h_w) (fun v g v' k hp hx => ?_)
  · by_cases c : (0 ≤ a ∧ a ≤ 59) ∧ (0 ≤ x ∧ x ≤ 6) ∧ (0 ≤ w ∧ w ≤ 1)
    · rw [if_pos c] at hp
      obtain ⟨hv, hl⟩ := hp
      exact hl.1 87 b (by decide) (by decide)
    · rw [if_neg c] at hp
      rw [← hp.2]
      exact rB_ne (by decide)
  · by_cases c : (0 ≤ a ∧ a ≤ 59) ∧ (0 ≤ x ∧ x ≤ 6) ∧ (0 ≤ w ∧ w ≤ 1)
    · rw [if_pos c] at hp hx
      obtain ⟨hv, hl⟩ := hp
      rw [vBed_2 r.v] at hx
      exact ⟨hv.symm.trans hx.1, h.q (fun a b x y => hl.1 a b (by omega) (by omega)) (h.2.1.li (by decide) hl) hx.2⟩
    · rw [if_neg c] at hp hx
      obtain ⟨rfl, rfl⟩ := hp
      obtain ⟨rfl, rfl⟩ := hx
      exact ⟨rfl, h.bad⟩
theorem rC_ne {G : Mem} {x b : Nat} (h : ¬ (14 ≤ x ∧ x ≤ 26)) : rCopy G 14 1 x b = G x b := rCopy_ne (by omega)
theorem C2.copy {G : Mem} (h : Rel G) : C2 (rCopy G 14 1) := by
  have e := rCopy_veq (G := G) (r := 14) (q := 1) (by decide) h.2.1.1.z h.1.1.z
  obtain ⟨h1, h2, h3, h4, h5⟩ := h.2.1
  refine ⟨h.1.1.c e, rCopy_q (by decide) h2, rCopy_q (by decide) h3, rCopy_q (by decide) h4, fun j => ?_⟩
  rw [rC_ne (by decide)]
  exact h5 j
theorem cs_move {G : Mem} (h : Rel G) {a : Int} (h_a : R32 a) : Cs M_X11_move M_X12_move [.int (iI a)] G := by
  have r := h.1.1
  refine Cs.mk (m_pMove r.v h.2.1.2.2.1 r.z h.2.1.1.z (fun j => (r.u.2 j).1) h_a) (Pm := fun g v' k => if 0 ≤ a ∧ a ≤ 59 then ((vMv (rv G 1) a (48 * (rv G 1 0 2).toNat)).1 = v' ∧ SC g k) else (-2 = v' ∧ xB g = k)) (fun v g hp => m_xMove r.v (h.mv (fun b => ?_)).nw h_a) (fun v g v' k hp hx => ?_)
  · by_cases c : 0 ≤ a ∧ a ≤ 59
    · rw [if_pos c] at hp
      obtain ⟨hv, hl⟩ := hp
      exact (hl.1 87 b (by decide) (by decide)).trans (rC_ne (by decide))
    · rw [if_neg c] at hp
      rw [← hp.2]
      exact rB_ne (by decide)
  · by_cases c : 0 ≤ a ∧ a ≤ 59
    · rw [if_pos c] at hp hx
      obtain ⟨hv, hl⟩ := hp
      exact ⟨hv.symm.trans hx.1, h.q (fun a b x y => (hl.1 a b (by omega) (by omega)).trans (rC_ne x)) ((C2.copy h).li (by decide) hl) hx.2⟩
    · rw [if_neg c] at hp hx
      obtain ⟨rfl, rfl⟩ := hp
      obtain ⟨rfl, rfl⟩ := hx
      exact ⟨rfl, h.bad⟩
theorem cs_out {G : Mem} (h : Rel G) {w : Int} (h_w : R32 w) : Cs M_X11_out M_X12_out [.int (iI w)] G := by
  have r := h.1.1
  refine Cs.mk (m_pOut r.v r.d h.2.1.2.2.2.1 h_w) (Pm := fun g v' k => if 0 ≤ w ∧ w ≤ 1 then ((if w = 0 then ((q_p64 (vFitA (rv G 1)) 64 : Nat) : Int) else vInA (rv G 1) (vFitA (rv G 1))) = v' ∧ SC g k) else (-10 = v' ∧ xB g = k)) (fun v g hp => have mv := (h.mv (fun b => ?_)); m_xOut r.v r.d mv.nw mv.rd h_w) (fun v g v' k hp hx => ?_)
  · by_cases c : 0 ≤ w ∧ w ≤ 1
    · rw [if_pos c] at hp
      obtain ⟨hv, hl⟩ := hp
      exact hl.1 87 b (by decide) (by decide)
    · rw [if_neg c] at hp
      rw [← hp.2]
      exact rB_ne (by decide)
  · by_cases c : 0 ≤ w ∧ w ≤ 1
    · rw [if_pos c] at hp hx
      obtain ⟨hv, hl⟩ := hp
      exact ⟨hv.symm.trans hx.1, h.q (fun a b x y => hl.1 a b (by omega) (by omega)) (h.2.1.li (by decide) hl) hx.2⟩
    · rw [if_neg c] at hp hx
      obtain ⟨rfl, rfl⟩ := hp
      obtain ⟨rfl, rfl⟩ := hx
      exact ⟨rfl, h.bad⟩
theorem cs_look {G : Mem} (h : Rel G) {a : Int} (h_a : R32 a) : Cs M_X11_look M_X12_look [.int (iI a)] G := by
  have r := h.1.1
  refine Cs.mk (m_pLook r.v r.d h.2.1.2.2.2.1 h_a) (Pm := fun g v' k => if 0 ≤ a ∧ a ≤ 59 then (vBCA (rv G 1) a (vFitA (rv G 1)) = v' ∧ SC g k) else (-2 = v' ∧ xB g = k)) (fun v g hp => have mv := (h.mv (fun b => ?_)); m_xLook r.v r.d mv.nw mv.rd h_a) (fun v g v' k hp hx => ?_)
  · by_cases c : 0 ≤ a ∧ a ≤ 59
    · rw [if_pos c] at hp
      obtain ⟨hv, hl⟩ := hp
      exact hl.1 87 b (by decide) (by decide) (by decide)
    · rw [if_neg c] at hp
      rw [← hp.2]
      exact rB_ne (by decide)
  · by_cases c : 0 ≤ a ∧ a ≤ 59
    · rw [if_pos c] at hp hx
      obtain ⟨hv, hl⟩ := hp
      exact ⟨hv.symm.trans hx.1, h.q (fun a b x y => hl.1 a b (by omega) (by omega) (by omega)) (h.2.1.fi hl) hx.2⟩
    · rw [if_neg c] at hp hx
      obtain ⟨rfl, rfl⟩ := hp
      obtain ⟨rfl, rfl⟩ := hx
      exact ⟨rfl, h.bad⟩
theorem q_cnt_c {e e' : Nat → Int} (h : ∀ j, j < 6 → e j = e' j) : ∀ k, k ≤ 36 → q_cnt e k = q_cnt e' k ∧ q_fst e k = q_fst e' k := by
  have hg : ∀ o p, o < 6 → q_get e o p = q_get e' o p := fun o p ho => by unfold q_get; rw [h o ho]
  have hb : ∀ o p, o < 6 → ∀ i, i ≤ 6 → q_bst e o p i = q_bst e' o p i := fun o p ho i => by
    induction i with
    | zero => intro _; rfl
    | succ i ih =>
      intro hi
      show (q_bst e o p i && decide (q_get e i p ≤ q_get e o p)) = (q_bst e' o p i && decide (q_get e' i p ≤ q_get e' o p))
      rw [ih (by omega), hg i p (by omega), hg o p ho]
  have hr : ∀ o p, o < 6 → p < 6 → q_rest e o p = q_rest e' o p := fun o p ho hp => by unfold q_rest; rw [hb o p ho 6 (by decide), hb p o hp 6 (by decide)]
  intro k
  induction k with
  | zero => intro _; exact ⟨rfl, rfl⟩
  | succ k ih =>
    intro hk
    have z := ih (by omega)
    have e1 : ∀ f : Nat → Int, q_cnt f (k + 1) = if q_rest f (k / 6) (k % 6) = true then q_cnt f k + 1 else q_cnt f k := fun f => rfl
    have e2 : ∀ f : Nat → Int, q_fst f (k + 1) = if q_rest f (k / 6) (k % 6) = true ∧ q_cnt f k = 0 then 10 * ((k / 6 : Nat) : Int) + ((k % 6 : Nat) : Int) else q_fst f k := fun f => rfl
    rw [e1, e1, e2, e2, hr _ _ (by omega) (by omega), z.1, z.2]
    exact ⟨rfl, rfl⟩
theorem cs_carters {G : Mem} (h : Rel G) {a : Int} (h_a : R32 a) {w : Int} (h_w : R32 w) : Cs M_X11_carters M_X12_carters [.int (iI a), .int (iI w)] G := by
  have r := h.1.1
  refine Cs.mk (m_pCarters r.v h.2.1.2.2.1 h.2.1.2.2.2.2 h_a h_w) (Pm := fun g v' k => if (0 ≤ a ∧ a ≤ 50) ∧ (0 ≤ w ∧ w ≤ 1) then ((if w = 0 then q_cnt (fun j => vThere (rv G 1) (vAll (rv G 1)) (a + j)) 36 else q_fst (fun j => vThere (rv G 1) (vAll (rv G 1)) (a + j)) 36) = v' ∧ SC g k) else (-10 = v' ∧ xB g = k)) (fun v g hp => m_xCarters (e := fun j => vThere (rv G 1) (vAll (rv G 1)) (a + j)) r.v (h.mv (fun b => ?_)).nw h_a h_w (fun _ _ => rfl)) (fun v g v' k hp hx => ?_)
  · by_cases c : (0 ≤ a ∧ a ≤ 50) ∧ (0 ≤ w ∧ w ≤ 1)
    · rw [if_pos c] at hp
      obtain ⟨hv, hl⟩ := hp
      exact hl.1 87 b (by decide) (by decide) (by decide)
    · rw [if_neg c] at hp
      rw [← hp.2]
      exact rB_ne (by decide)
  · by_cases c : (0 ≤ a ∧ a ≤ 50) ∧ (0 ≤ w ∧ w ≤ 1)
    · rw [if_pos c] at hp hx
      obtain ⟨hv, hl⟩ := hp
      obtain ⟨e, he, hv⟩ := hv
      have z := q_cnt_c he 36 (by decide)
      refine ⟨hv.symm.trans (Eq.trans ?_ hx.1), h.q (fun a b x y => hl.1 a b (by omega) (by omega) (by omega)) (h.2.1.ei hl) hx.2⟩
      rcases (show w = 0 ∨ w = 1 by omega) with rfl | rfl
      · exact z.1
      · exact z.2
    · rw [if_neg c] at hp hx
      obtain ⟨rfl, rfl⟩ := hp
      obtain ⟨rfl, rfl⟩ := hx
      exact ⟨rfl, h.bad⟩
