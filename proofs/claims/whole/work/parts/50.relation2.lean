theorem MV.lw {V : Mem} {f : Nat → Int} {v : Int} {f' : Nat → Int} (h : MV V f) (hf : ∀ y, f' y = if y = 2 then v else f y) : MV (ug V 0 1 v) f' := by
  obtain ⟨⟨a0, a1, a2, a3, a4, a5⟩, hk, h6, hm, hu⟩ := h
  unfold MV MS MK MP6 MR UR
  simp (disch := omega) only [ug_at, ug_nc, ug_np, hf]
  simp (disch := omega) only [if_neg]
  exact ⟨⟨a0, a1, rfl, a3, a4, a5⟩, hk, h6, hm, hu⟩
theorem MV.sp0 {V : Mem} {f : Nat → Int} {f' : Nat → Int} (h : MV V f) (hf : ∀ y, f' y = if y = 3 then 0 else f y) : MV (ug V 0 8 0) f' := by
  obtain ⟨⟨a0, a1, a2, a3, a4, a5⟩, hk, h6, hm, hu⟩ := h
  unfold MV MS MK MP6 MR UR
  simp (disch := omega) only [ug_at, ug_nc, ug_np, hf]
  simp (disch := omega) only [if_neg]
  exact ⟨⟨a0, a1, a2, rfl, a4, a5⟩, hk, fun i q => absurd q (by omega), hm, hu⟩
theorem MV.rd0 {V : Mem} {f : Nat → Int} {f' : Nat → Int} (h : MV V f) (hf : ∀ y, f' y = if y = 4 then 0 else f y) : MV (ug V 0 10 0) f' := by
  obtain ⟨⟨a0, a1, a2, a3, a4, a5⟩, hk, h6, hm, hu⟩ := h
  unfold MV MS MK MP6 MR UR
  simp (disch := omega) only [ug_at, ug_nc, ug_np, hf]
  simp (disch := omega) only [if_neg]
  exact ⟨⟨a0, a1, a2, a3, rfl, a5⟩, hk, h6, fun i q => absurd q (by omega), hu⟩
theorem MV.beg {V : Mem} {f : Nat → Int} {s l : Int} (hV : V 0 2 = 0 ∧ V 0 0 = s ∧ V 0 1 = l ∧ V 0 8 = 0 ∧ V 0 10 = 0 ∧ V 0 14 = 0) (hf : ∀ y, y < 74 → f y = (if y = 2 then l else if y = 1 then s else 0)) : MV V f := by
  obtain ⟨v2, v0, v1, v8, v10, v14⟩ := hV
  refine ⟨⟨?_, ?_, ?_, ?_, ?_, ?_⟩, fun i q => absurd q (by omega), fun i q => absurd q (by omega), fun i q => absurd q (by omega), fun k c q => absurd q (by omega)⟩
  · rw [v2]; exact hf 0 (by decide)
  · rw [v0]; exact hf 1 (by decide)
  · rw [v1]; exact hf 2 (by decide)
  · rw [v8]; exact hf 3 (by decide)
  · rw [v10]; exact hf 4 (by decide)
  · rw [v14]; exact hf 5 (by decide)
theorem MV.kid {V g : Mem} (h : MV V (g 87)) (hr : Rok V) {n : Nat} (hn : V 0 2 = (n : Int)) (h6 : n < 6) {k hh c s b : Int} : MV (ug (ug (ug (ug (ug (ug (ug V 1 n k) 2 n hh) 3 n c) 4 n s) 5 n b) 0 2 ((n : Int) + 1)) 0 14 0) (ug (mAdd g 87 k hh c s b) 87 5 0 87) := by
  have hsp := hr.s.1
  have hrd := hr.d.1
  obtain ⟨⟨a0, a1, a2, a3, a4, a5⟩, hk, h66, hm, hu⟩ := h
  rw [hn] at a0
  unfold MV MS MK MP6 MR UR
  unfold mAdd
  rw [a0, Int.toNat_natCast]
  simp (disch := omega) only [ug_at, ug_nc, ug_np]
  refine ⟨⟨trivial, a1, a2, a3, a4, trivial⟩, fun i hi => ?_, fun i hi => ?_, fun i hi => ?_, fun k c q => absurd q (by omega)⟩
  · by_cases e : i = n
    · subst e
      try simp (disch := omega) only [ug_at, ug_np, Nat.add_zero]
      exact ⟨trivial, trivial, trivial, trivial, trivial⟩
    · have z := hk i (by omega)
      try simp (disch := omega) only [ug_np]
      exact z
  · try simp (disch := omega) only [ug_np]
    exact h66 i hi
  · try simp (disch := omega) only [ug_np]
    exact hm i hi
theorem MV.spd {V g : Mem} (h : MV V (g 87)) (hr : Rok V) {n : Nat} (hn : V 0 8 = (n : Int)) (hn2 : n < 20) {v : Int} : MV (ug (ug V 6 n v) 0 8 ((n : Int) + 1)) (ug (ug g 87 (36 + n) v) 87 3 ((n : Int) + 1) 87) := by
  have h2 := hr.v.2.2.1
  have hrd := hr.d.1
  have h14 := hr.u.1
  obtain ⟨⟨a0, a1, a2, a3, a4, a5⟩, hk, h6, hm, hu⟩ := h
  unfold MV MS MK MP6 MR UR
  simp (disch := omega) only [ug_at, ug_nc, ug_np]
  refine ⟨⟨a0, a1, a2, trivial, a4, a5⟩, fun i hi => ?_, fun i hi => ?_, fun i hi => ?_, fun k c q1 q2 => ?_⟩
  · try simp (disch := omega) only [ug_np]
    exact hk i hi
  · by_cases e : i = n
    · subst e
      rw [ug_at, ug_at]
    · rw [ug_np (show 36 + i ≠ 36 + n by omega), ug_np e]
      exact h6 i (by omega)
  · try simp (disch := omega) only [ug_np]
    exact hm i hi
  · have z := hu k c q1 q2
    try simp (disch := omega) only [ug_np]
    exact z
theorem MV.rdg {V g : Mem} (h : MV V (g 87)) (hr : Rok V) {n : Nat} (hn : V 0 10 = (n : Int)) (hn2 : n < 6) {c t v : Int} : MV (ug (ug (ug (ug V 7 n c) 8 n t) 9 n v) 0 10 ((n : Int) + 1)) (ug (ug (ug (ug g 87 (56 + 3 * n) c) 87 (56 + 3 * n + 1) t) 87 (56 + 3 * n + 2) v) 87 4 ((n : Int) + 1) 87) := by
  have h2 := hr.v.2.2.1
  have hsp := hr.s.1
  have h14 := hr.u.1
  obtain ⟨⟨a0, a1, a2, a3, a4, a5⟩, hk, h6, hm, hu⟩ := h
  unfold MV MS MK MP6 MR UR
  simp (disch := omega) only [ug_at, ug_nc, ug_np]
  refine ⟨⟨a0, a1, a2, a3, trivial, a5⟩, fun i hi => ?_, fun i hi => ?_, fun i hi => ?_, fun k c q1 q2 => ?_⟩
  · try simp (disch := omega) only [ug_np]
    exact hk i hi
  · try simp (disch := omega) only [ug_np]
    exact h6 i hi
  · by_cases e : i = n
    · subst e
      try simp (disch := omega) only [ug_at, ug_np, Nat.add_zero]
      exact ⟨trivial, trivial, trivial⟩
    · have z := hm i (by omega)
      try simp (disch := omega) only [ug_np]
      exact z
  · have z := hu k c q1 q2
    try simp (disch := omega) only [ug_np]
    exact z
/-! undos -/
theorem sn_c {G : Mem} {u c : Nat} (hc : c < 6) : sn G u 6 87 (74 + 12 * u + 2 * c) = G 87 (6 + 5 * c + 2) := by
  unfold sn
  rw [if_pos (by omega), if_pos (by omega), show (74 + 12 * u + 2 * c - (74 + 12 * u)) / 2 = c by omega]
theorem sn_b {G : Mem} {u c : Nat} (hc : c < 6) : sn G u 6 87 (74 + 12 * u + 2 * c + 1) = G 87 (6 + 5 * c + 4) := by
  unfold sn
  rw [if_pos (by omega), if_neg (by omega), show (74 + 12 * u + 2 * c + 1 - (74 + 12 * u)) / 2 = c by omega]
theorem sn_o {G : Mem} {u y : Nat} (h : y < 74 + 12 * u ∨ 74 + 12 * u + 12 ≤ y) : sn G u 6 87 y = G 87 y := if_neg (fun q => by omega)
theorem MV.push {V g : Mem} (h : MV V (g 87)) (hr : Rok V) {u : Nat} (hun : V 0 14 = (u : Int)) (hu8 : u < 8) {c : Nat} {b w : Int} (hw : (b = 0 ∧ w = V 3 c) ∨ (b = 1 ∧ w = V 5 c)) : MV (ug (ug (ug (ug V 10 u (c : Int)) 11 u b) 12 u w) 0 14 ((u : Int) + 1)) (ug (sn g u 6) 87 5 ((u : Int) + 1) 87) := by
  have h2 := hr.v.2.2.1
  have hsp := hr.s.1
  have hrd := hr.d.1
  obtain ⟨⟨a0, a1, a2, a3, a4, a5⟩, hk, h6, hm, hu⟩ := h
  unfold MV MS MK MP6 MR UR
  simp (disch := omega) only [ug_at, ug_nc, ug_np, sn_o]
  refine ⟨⟨a0, a1, a2, a3, a4, trivial⟩, fun i hi => ?_, fun i hi => ?_, fun i hi => ?_, fun k c' q1 q2 => ?_⟩
  · try simp (disch := omega) only [ug_np, sn_o]
    exact hk i hi
  · try simp (disch := omega) only [ug_np, sn_o]
    exact h6 i hi
  · try simp (disch := omega) only [ug_np, sn_o]
    exact hm i hi
  · have z2 := hk c' q2
    by_cases e : k = u
    · subst e
      try simp (disch := omega) only [ug_at, ug_np]
      rw [sn_c (by omega), sn_b (by omega), z2.2.2.1, z2.2.2.2.2]
      rw [if_neg (show ¬ (k : Int) + 1 < (k : Int) + 1 by omega), if_neg (show ¬ (k : Int) + 1 < (k : Int) + 1 by omega)]
      constructor
      · by_cases q : (c : Int) = (c' : Int) ∧ b = 0
        · rw [if_pos q]
          have q3 : c = c' := by omega
          subst q3
          rcases hw with w1 | w1
          · exact w1.2.symm
          · omega
        · rw [if_neg q]
      · by_cases q : (c : Int) = (c' : Int) ∧ b = 1
        · rw [if_pos q]
          have q3 : c = c' := by omega
          subst q3
          rcases hw with w1 | w1
          · omega
          · exact w1.2.symm
        · rw [if_neg q]
    · have z := hu k c' (by omega) q2
      try simp (disch := omega) only [ug_np]
      rw [sn_o (y := 74 + 12 * k + 2 * c') (by omega), sn_o (y := 74 + 12 * k + 2 * c' + 1) (by omega)]
      rw [if_pos (show (k : Int) + 1 < (u : Int) + 1 by omega), if_pos (show (k : Int) + 1 < (u : Int) + 1 by omega)]
      by_cases e2 : k + 1 = u
      · rw [e2, sn_c (by omega), sn_b (by omega), z2.2.2.1, z2.2.2.2.2]
        rw [if_neg (show ¬ (k : Int) + 1 < V 0 14 by omega), if_neg (show ¬ (k : Int) + 1 < V 0 14 by omega)] at z
        exact z
      · rw [sn_o (by omega), sn_o (by omega)]
        rw [if_pos (show (k : Int) + 1 < V 0 14 by omega), if_pos (show (k : Int) + 1 < V 0 14 by omega)] at z
        exact z
theorem ks_i {G : Mem} {y : Nat} (h : 74 ≤ y ∧ y < 158) : ks G 84 87 y = G 87 (y + 12) := if_pos (by omega)
theorem ks_o {G : Mem} {y : Nat} (h : y < 74 ∨ 158 ≤ y) : ks G 84 87 y = G 87 y := if_neg (fun q => by omega)
theorem MV.sh {V g : Mem} (h : MV V (g 87)) (hr : Rok V) (hun : V 0 14 = 8) : MV (vSh V) (ug (ks g 84) 87 5 7 87) := by
  have h2 := hr.v.2.2.1
  have hsp := hr.s.1
  have hrd := hr.d.1
  have e : ∀ a b, ¬ (a = 10 ∨ a = 11 ∨ a = 12) → ¬ (a = 0 ∧ b = 14) → vSh V a b = V a b := fun a b h1 h2 => (ug_ne h2).trans (if_neg (fun q => h1 q.1))
  have e2 : ∀ a b, (a = 10 ∨ a = 11 ∨ a = 12) → b < 7 → vSh V a b = V a (b + 1) := fun a b h1 h2 => (ug_nc (by omega)).trans (if_pos ⟨h1, h2⟩)
  have e4 : vSh V 0 14 = 7 := ug_at
  obtain ⟨⟨a0, a1, a2, a3, a4, a5⟩, hk, h6, hm, hu⟩ := h
  unfold MV MS MK MP6 MR UR
  rw [e4]
  simp (disch := omega) only [e, ug_at, ug_np, ks_o]
  refine ⟨⟨a0, a1, a2, a3, a4, trivial⟩, fun i hi => ?_, fun i hi => ?_, fun i hi => ?_, fun k c' q1 q2 => ?_⟩
  · try simp (disch := omega) only [ug_np, ks_o]
    exact hk i hi
  · try simp (disch := omega) only [ug_np, ks_o]
    exact h6 i hi
  · try simp (disch := omega) only [ug_np, ks_o]
    exact hm i hi
  · have z := hu (k + 1) c' (by omega) q2
    rw [ks_i (y := 74 + 12 * k + 2 * c') (by omega), ks_i (y := 74 + 12 * k + 2 * c' + 1) (by omega), e2 10 k (by decide) (by omega), e2 11 k (by decide) (by omega), e2 12 k (by decide) (by omega)]
    rw [show 74 + 12 * k + 2 * c' + 12 = 74 + 12 * (k + 1) + 2 * c' by omega, show 74 + 12 * k + 2 * c' + 1 + 12 = 74 + 12 * (k + 1) + 2 * c' + 1 by omega]
    by_cases q : k + 1 < 7
    · rw [ks_i (y := 74 + 12 * (k + 1) + 2 * c') (by omega), ks_i (y := 74 + 12 * (k + 1) + 2 * c' + 1) (by omega), if_pos (show (k : Int) + 1 < 7 by omega), if_pos (show (k : Int) + 1 < 7 by omega)]
      rw [show 74 + 12 * (k + 1) + 2 * c' + 12 = 74 + 12 * (k + 1 + 1) + 2 * c' by omega, show 74 + 12 * (k + 1) + 2 * c' + 1 + 12 = 74 + 12 * (k + 1 + 1) + 2 * c' + 1 by omega]
      rw [if_pos (show ((k + 1 : Nat) : Int) + 1 < V 0 14 by omega), if_pos (show ((k + 1 : Nat) : Int) + 1 < V 0 14 by omega)] at z
      exact z
    · rw [if_neg (show ¬ (k : Int) + 1 < 7 by omega), if_neg (show ¬ (k : Int) + 1 < 7 by omega)]
      rw [if_neg (show ¬ ((k + 1 : Nat) : Int) + 1 < V 0 14 by omega), if_neg (show ¬ ((k + 1 : Nat) : Int) + 1 < V 0 14 by omega)] at z
      exact z
theorem MV.cell {V g : Mem} (h : MV V (g 87)) (hr : Rok V) {u c : Nat} (hun : V 0 14 = (u : Int) + 1) (hc10 : V 10 u = (c : Int)) (hc11 : V 11 u = 0) {x : Int} : MV (ug V 3 c x) (ug g 87 (6 + 5 * c + 2) x 87) := by
  have h2 := hr.v.2.2.1
  have hsp := hr.s.1
  have hrd := hr.d.1
  have h14 := hr.u.1
  have hc5 := (hr.u.2 u).2.1
  obtain ⟨⟨a0, a1, a2, a3, a4, a5⟩, hk, h6, hm, hu⟩ := h
  unfold MV MS MK MP6 MR UR
  simp (disch := omega) only [ug_nc, ug_np]
  refine ⟨⟨a0, a1, a2, a3, a4, a5⟩, fun i hi => ?_, fun i hi => ?_, fun i hi => ?_, fun k c' q1 q2 => ?_⟩
  · have z := hk i hi
    by_cases e : i = c
    · subst e
      try simp (disch := omega) only [ug_at, ug_np, Nat.add_zero]
      exact ⟨z.1, z.2.1, trivial, z.2.2.2⟩
    · try simp (disch := omega) only [ug_np]
      exact z
  · try simp (disch := omega) only [ug_np]
    exact h6 i hi
  · try simp (disch := omega) only [ug_np]
    exact hm i hi
  · have z := hu k c' q1 q2
    try simp (disch := omega) only [ug_np]
    by_cases q : (k : Int) + 1 < V 0 14
    · rw [if_pos q, if_pos q] at z ⊢
      exact z
    · rw [if_neg q, if_neg q] at z ⊢
      have ek : k = u := by omega
      subst ek
      by_cases e : c' = c
      · subst e
        rw [if_pos (show V 10 k = (c' : Int) ∧ V 11 k = 0 from ⟨hc10, hc11⟩), if_neg (show ¬ (V 10 k = (c' : Int) ∧ V 11 k = 1) from fun q => by omega)] at z ⊢
        exact z
      · rw [ug_np e]
        exact z
theorem MV.bed {V g : Mem} (h : MV V (g 87)) (hr : Rok V) {u c : Nat} (hun : V 0 14 = (u : Int) + 1) (hc10 : V 10 u = (c : Int)) (hc11 : V 11 u = 1) {x : Int} : MV (ug V 5 c x) (ug g 87 (6 + 5 * c + 4) x 87) := by
  have h2 := hr.v.2.2.1
  have hsp := hr.s.1
  have hrd := hr.d.1
  have h14 := hr.u.1
  have hc5 := (hr.u.2 u).2.1
  obtain ⟨⟨a0, a1, a2, a3, a4, a5⟩, hk, h6, hm, hu⟩ := h
  unfold MV MS MK MP6 MR UR
  simp (disch := omega) only [ug_nc, ug_np]
  refine ⟨⟨a0, a1, a2, a3, a4, a5⟩, fun i hi => ?_, fun i hi => ?_, fun i hi => ?_, fun k c' q1 q2 => ?_⟩
  · have z := hk i hi
    by_cases e : i = c
    · subst e
      try simp (disch := omega) only [ug_at, ug_np, Nat.add_zero]
      exact ⟨z.1, z.2.1, z.2.2.1, z.2.2.2.1, trivial⟩
    · try simp (disch := omega) only [ug_np]
      exact z
  · try simp (disch := omega) only [ug_np]
    exact h6 i hi
  · try simp (disch := omega) only [ug_np]
    exact hm i hi
  · have z := hu k c' q1 q2
    try simp (disch := omega) only [ug_np]
    by_cases q : (k : Int) + 1 < V 0 14
    · rw [if_pos q, if_pos q] at z ⊢
      exact z
    · rw [if_neg q, if_neg q] at z ⊢
      have ek : k = u := by omega
      subst ek
      by_cases e : c' = c
      · subst e
        rw [if_neg (show ¬ (V 10 k = (c' : Int) ∧ V 11 k = 0) from fun q => by omega), if_pos (show V 10 k = (c' : Int) ∧ V 11 k = 1 from ⟨hc10, hc11⟩)] at z ⊢
        exact z
      · rw [ug_np e]
        exact z
theorem ud_c {G : Mem} {u c : Nat} (hc : c < 6) : ud G u 6 87 (6 + 5 * c + 2) = G 87 (74 + 12 * u + 2 * c) := by
  unfold ud
  rw [if_pos (by omega), if_pos (by omega), show (6 + 5 * c + 2 - 6) / 5 = c by omega, Nat.add_zero]
theorem ud_b {G : Mem} {u c : Nat} (hc : c < 6) : ud G u 6 87 (6 + 5 * c + 4) = G 87 (74 + 12 * u + 2 * c + 1) := by
  unfold ud
  rw [if_pos (by omega), if_neg (by omega), show (6 + 5 * c + 4 - 6) / 5 = c by omega]
theorem ud_o {G : Mem} {u y : Nat} (h : y < 6 ∨ 36 ≤ y ∨ ((y - 6) % 5 ≠ 2 ∧ (y - 6) % 5 ≠ 4)) : ud G u 6 87 y = G 87 y := if_neg (fun q => by omega)
def vUn (V : Mem) (u : Nat) : Mem := if V 11 u = 0 then ug (ug V 0 14 (u : Int)) 3 (V 10 u).toNat (V 12 u) else ug (ug V 0 14 (u : Int)) 5 (V 10 u).toNat (V 12 u)
theorem Rok.und {V : Mem} (h : Rok V) {u : Nat} (hun : V 0 14 = (u : Int) + 1) : Rok (vUn V u) := by
  have k := h.u.2 u
  have k14 := h.u.1
  have h1 := h.un (v := (u : Int)) (by omega)
  unfold vUn
  by_cases e : V 11 u = 0
  · rw [if_pos e]
    exact h1.cell (by omega) (k.2.2.1 e)
  · rw [if_neg e]
    exact h1.bed (by omega) (k.2.2.2 (by omega))
theorem vUn_s {V : Mem} {u a b : Nat} (h3 : a ≠ 3) (h5 : a ≠ 5) : vUn V u a b = ug V 0 14 (u : Int) a b := by
  unfold vUn
  split
  · rw [ug_nc h3]
  · rw [ug_nc h5]
theorem vUn_3 {V : Mem} {u c : Nat} (h10 : 0 ≤ V 10 u) : vUn V u 3 c = if V 10 u = (c : Int) ∧ V 11 u = 0 then V 12 u else V 3 c := by
  unfold vUn
  by_cases e : V 11 u = 0
  · rw [if_pos e]
    by_cases q : V 10 u = (c : Int)
    · rw [if_pos ⟨q, e⟩, show (V 10 u).toNat = c by omega, ug_at]
    · rw [if_neg (fun z => q z.1), ug_np (by omega), ug_nc (by decide)]
  · rw [if_neg e, if_neg (fun z => e z.2), ug_nc (by decide), ug_nc (by decide)]
theorem vUn_5 {V : Mem} {u c : Nat} (h10 : 0 ≤ V 10 u) (h11 : V 11 u = 0 ∨ V 11 u = 1) : vUn V u 5 c = if V 10 u = (c : Int) ∧ V 11 u = 1 then V 12 u else V 5 c := by
  unfold vUn
  by_cases e : V 11 u = 0
  · rw [if_pos e, if_neg (fun z => by omega), ug_nc (by decide), ug_nc (by decide)]
  · rw [if_neg e]
    by_cases q : V 10 u = (c : Int)
    · rw [if_pos ⟨q, by omega⟩, show (V 10 u).toNat = c by omega, ug_at]
    · rw [if_neg (fun z => q z.1), ug_np (by omega), ug_nc (by decide)]
theorem MV.und {V g : Mem} (h : MV V (g 87)) (hr : Rok V) {u : Nat} (hun : V 0 14 = (u : Int) + 1) : MV (vUn V u) (ud (ug g 87 5 (u : Int)) u 6 87) := by
  have h2 := hr.v.2.2.1
  have hsp := hr.s.1
  have hrd := hr.d.1
  have h14 := hr.u.1
  have hc5 := hr.u.2 u
  obtain ⟨⟨a0, a1, a2, a3, a4, a5⟩, hk, h6, hm, hu⟩ := h
  have e14 : vUn V u 0 14 = (u : Int) := (vUn_s (by decide) (by decide)).trans ug_at
  have e0 : ∀ a b, a ≠ 3 → a ≠ 5 → ¬ (a = 0 ∧ b = 14) → vUn V u a b = V a b := fun a b h1 h2 h3 => (vUn_s h1 h2).trans (ug_ne h3)
  have er : ∀ c : Nat, (c : Int) < V 0 2 → vUn V u 3 c = g 87 (74 + 12 * u + 2 * c) ∧ vUn V u 5 c = g 87 (74 + 12 * u + 2 * c + 1) := fun c hc => by
    have z := hu u c (by omega) hc
    rw [if_neg (show ¬ (u : Int) + 1 < V 0 14 by omega), if_neg (show ¬ (u : Int) + 1 < V 0 14 by omega)] at z
    rw [vUn_3 hc5.2.1.1, vUn_5 hc5.2.1.1 hc5.1]
    exact ⟨z.1.symm, z.2.symm⟩
  unfold MV MS MK MP6 MR UR
  rw [e14]
  simp (disch := omega) only [e0, ud_o, ug_at, ug_np]
  refine ⟨⟨a0, a1, a2, a3, a4, trivial⟩, fun i hi => ?_, fun i hi => ?_, fun i hi => ?_, fun k c q1 q2 => ?_⟩
  · have z := hk i hi
    have z2 := er i hi
    rw [ud_c (by omega), ud_b (by omega), z2.1, z2.2]
    try simp (disch := omega) only [ud_o, ug_np]
    exact ⟨z.1, z.2.1, trivial, z.2.2.2.1, trivial⟩
  · try simp (disch := omega) only [ud_o, ug_np]
    exact h6 i hi
  · try simp (disch := omega) only [ud_o, ug_np]
    exact hm i hi
  · have z := hu k c (by omega) q2
    have z2 := er c q2
    rw [if_pos (show (k : Int) + 1 < V 0 14 by omega), if_pos (show (k : Int) + 1 < V 0 14 by omega)] at z
    try simp (disch := omega) only [ud_o, ug_np]
    by_cases q : (k : Int) + 1 < (u : Int)
    · rw [if_pos q, if_pos q]
      exact z
    · rw [if_neg q, if_neg q, z2.1, z2.2, ← show k + 1 = u by omega]
      exact z
