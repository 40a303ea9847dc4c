/-! ===== what holds between the calls: the class's own cells ===== -/
/-- the undos of a road -/
def Uk (V : Mem) : Prop := (0 ≤ V 0 14 ∧ V 0 14 ≤ 8) ∧ ∀ j : Nat, (V 11 j = 0 ∨ V 11 j = 1) ∧ (0 ≤ V 10 j ∧ V 10 j ≤ 5) ∧ (V 11 j = 0 → 0 ≤ V 12 j ∧ V 12 j ≤ 47) ∧ (V 11 j = 1 → 0 ≤ V 12 j ∧ V 12 j ≤ 60)
def Rok (V : Mem) : Prop := Vok V ∧ Sok V ∧ Dok V ∧ Zr V ∧ Uk V
theorem Rok.v {V : Mem} (h : Rok V) : Vok V := h.1
theorem Rok.s {V : Mem} (h : Rok V) : Sok V := h.2.1
theorem Rok.d {V : Mem} (h : Rok V) : Dok V := h.2.2.1
theorem Rok.z {V : Mem} (h : Rok V) : Zr V := h.2.2.2.1
theorem Rok.u {V : Mem} (h : Rok V) : Uk V := h.2.2.2.2
theorem Rok.c {V V' : Mem} (h : Veq V V') (k : Rok V) : Rok V' := by
  have e : ∀ a b, a ≤ 12 → V' a b = V a b := fun a b ha => (h a b ha).symm
  refine ⟨h.ok k.v, ?_, ?_, fun a b ha hb => ?_, ?_⟩
  · unfold Sok
    simp (disch := decide) only [e]
    exact k.s
  · unfold Dok
    simp (disch := decide) only [e]
    exact k.d
  · rw [e a b ha]
    exact k.z a b ha hb
  · unfold Uk
    simp (disch := decide) only [e]
    exact k.u
theorem rv_ug {G : Mem} {r a j : Nat} {v : Int} : rv (ug G (r + a) j v) r = ug (rv G r) a j v := by
  funext x y
  show ug G (r + a) j v (r + x) y = ug (rv G r) a j v x y
  by_cases h : x = a ∧ y = j
  · obtain ⟨rfl, rfl⟩ := h
    rw [ug_at, ug_at]
  · rw [ug_ne h, ug_ne (fun q => h ⟨by omega, q.2⟩)]
theorem rv_ug0 {G : Mem} {r j : Nat} {v : Int} : rv (ug G r j v) r = ug (rv G r) 0 j v := rv_ug (a := 0)
theorem Zr.ug {V : Mem} (h : Zr V) {a j : Nat} {v : Int} (hj : j < zl a ∧ (a = 0 → j = 0 ∨ j = 1 ∨ j = 2 ∨ j = 8 ∨ j = 10 ∨ j = 14)) : Zr (ug V a j v) := by
  intro x y hx hy
  by_cases e : x = a ∧ y = j
  · obtain ⟨rfl, rfl⟩ := e
    exfalso
    rcases hy with hy | hy
    · omega
    · have := hj.2 hy.1
      omega
  · rw [ug_ne e]
    exact h x y hx hy
theorem Rok.sg {V : Mem} (h : Rok V) {v : Int} (hv : 0 ≤ v ∧ v ≤ 47) : Rok (ug V 0 0 v) := by
  refine ⟨?_, ?_, ?_, h.z.ug (by constructor <;> decide), ?_⟩
  · have k := h.v
    unfold Vok at k ⊢
    simp (disch := omega) only [ug_at, ug_nc, ug_np]
    exact ⟨hv, k.2⟩
  · have k := h.s
    unfold Sok at k ⊢
    simp (disch := omega) only [ug_at, ug_nc, ug_np]
    exact k
  · have k := h.d
    unfold Dok at k ⊢
    simp (disch := omega) only [ug_at, ug_nc, ug_np]
    exact k
  · have k := h.u
    unfold Uk at k ⊢
    simp (disch := omega) only [ug_at, ug_nc, ug_np]
    exact k
theorem Rok.lw {V : Mem} (h : Rok V) {v : Int} (hv : 0 ≤ v ∧ v ≤ 2) : Rok (ug V 0 1 v) := by
  refine ⟨?_, ?_, ?_, h.z.ug (by constructor <;> decide), ?_⟩
  · have k := h.v
    unfold Vok at k ⊢
    simp (disch := omega) only [ug_at, ug_nc, ug_np]
    exact ⟨k.1, hv, k.2.2⟩
  · have k := h.s
    unfold Sok at k ⊢
    simp (disch := omega) only [ug_at, ug_nc, ug_np]
    exact k
  · have k := h.d
    unfold Dok at k ⊢
    simp (disch := omega) only [ug_at, ug_nc, ug_np]
    exact k
  · have k := h.u
    unfold Uk at k ⊢
    simp (disch := omega) only [ug_at, ug_nc, ug_np]
    exact k
theorem Rok.n0 {V : Mem} (h : Rok V) {v : Int} (hv : v = 0) : Rok (ug V 0 2 v) := by
  refine ⟨?_, ?_, ?_, h.z.ug (by constructor <;> decide), ?_⟩
  · have k := h.v
    unfold Vok at k ⊢
    simp (disch := omega) only [ug_at, ug_nc, ug_np]
    exact ⟨k.1, k.2.1, by omega, fun i => ⟨(k.2.2.2 i).1, (k.2.2.2 i).2.1, (k.2.2.2 i).2.2.1, (k.2.2.2 i).2.2.2.1, (k.2.2.2 i).2.2.2.2.1, fun q => absurd q (by omega)⟩⟩
  · have k := h.s
    unfold Sok at k ⊢
    simp (disch := omega) only [ug_at, ug_nc, ug_np]
    exact k
  · have k := h.d
    unfold Dok at k ⊢
    simp (disch := omega) only [ug_at, ug_nc, ug_np]
    exact k
  · have k := h.u
    unfold Uk at k ⊢
    simp (disch := omega) only [ug_at, ug_nc, ug_np]
    exact k
theorem Rok.sp {V : Mem} (h : Rok V) {v : Int} (hv : 0 ≤ v ∧ v ≤ 20) : Rok (ug V 0 8 v) := by
  refine ⟨?_, ?_, ?_, h.z.ug (by constructor <;> decide), ?_⟩
  · have k := h.v
    unfold Vok at k ⊢
    simp (disch := omega) only [ug_at, ug_nc, ug_np]
    exact k
  · have k := h.s
    unfold Sok at k ⊢
    simp (disch := omega) only [ug_at, ug_nc, ug_np]
    exact ⟨hv, k.2⟩
  · have k := h.d
    unfold Dok at k ⊢
    simp (disch := omega) only [ug_at, ug_nc, ug_np]
    exact k
  · have k := h.u
    unfold Uk at k ⊢
    simp (disch := omega) only [ug_at, ug_nc, ug_np]
    exact k
theorem Rok.rd {V : Mem} (h : Rok V) {v : Int} (hv : 0 ≤ v ∧ v ≤ 6) : Rok (ug V 0 10 v) := by
  refine ⟨?_, ?_, ?_, h.z.ug (by constructor <;> decide), ?_⟩
  · have k := h.v
    unfold Vok at k ⊢
    simp (disch := omega) only [ug_at, ug_nc, ug_np]
    exact k
  · have k := h.s
    unfold Sok at k ⊢
    simp (disch := omega) only [ug_at, ug_nc, ug_np]
    exact k
  · have k := h.d
    unfold Dok at k ⊢
    simp (disch := omega) only [ug_at, ug_nc, ug_np]
    exact ⟨hv, k.2⟩
  · have k := h.u
    unfold Uk at k ⊢
    simp (disch := omega) only [ug_at, ug_nc, ug_np]
    exact k
theorem Rok.un {V : Mem} (h : Rok V) {v : Int} (hv : 0 ≤ v ∧ v ≤ 8) : Rok (ug V 0 14 v) := by
  refine ⟨?_, ?_, ?_, h.z.ug (by constructor <;> decide), ?_⟩
  · have k := h.v
    unfold Vok at k ⊢
    simp (disch := omega) only [ug_at, ug_nc, ug_np]
    exact k
  · have k := h.s
    unfold Sok at k ⊢
    simp (disch := omega) only [ug_at, ug_nc, ug_np]
    exact k
  · have k := h.d
    unfold Dok at k ⊢
    simp (disch := omega) only [ug_at, ug_nc, ug_np]
    exact k
  · have k := h.u
    unfold Uk at k ⊢
    simp (disch := omega) only [ug_at, ug_nc, ug_np]
    exact ⟨hv, k.2⟩
theorem Rok.begin {G : Mem} {r : Nat} {s l : Int} (h : Rok (rv G r)) (hs : 0 ≤ s ∧ s ≤ 47) (hl : 0 ≤ l ∧ l ≤ 2) : Rok (rv (rBegin G r s l) r) := by
  unfold rBegin
  rw [rv_ug0, rv_ug0, rv_ug0, rv_ug0, rv_ug0, rv_ug0]
  exact (((((h.sg hs).lw hl).n0 rfl).sp ⟨by decide, by decide⟩).rd ⟨by decide, by decide⟩).un ⟨by decide, by decide⟩
/-- a new child's row is laid, then counted -/
theorem Rok.kid {V : Mem} (h : Rok V) {n : Nat} (hn : V 0 2 = (n : Int)) (h6 : n < 6) {k hh c s b : Int} (hk : 0 ≤ k ∧ k ≤ 5) (hhh : 1 ≤ hh ∧ hh ≤ 9) (hc : 0 ≤ c ∧ c ≤ 47) (hs : 0 ≤ s ∧ s ≤ 3) (hb : 0 ≤ b ∧ b ≤ 60) : Rok (ug (ug (ug (ug (ug (ug (ug V 1 n k) 2 n hh) 3 n c) 4 n s) 5 n b) 0 2 ((n : Int) + 1)) 0 14 0) := by
  have z6 : ∀ a, 1 ≤ a ∧ a ≤ 5 → n < zl a ∧ (a = 0 → n = 0 ∨ n = 1 ∨ n = 2 ∨ n = 8 ∨ n = 10 ∨ n = 14) := fun a ha => by
    rcases (show a = 1 ∨ a = 2 ∨ a = 3 ∨ a = 4 ∨ a = 5 by omega) with q | q | q | q | q <;> subst q <;> exact ⟨h6, fun q => absurd q (by decide)⟩
  refine ⟨?_, ?_, ?_, ((((((h.z.ug (z6 1 (by decide))).ug (z6 2 (by decide))).ug (z6 3 (by decide))).ug (z6 4 (by decide))).ug (z6 5 (by decide))).ug ⟨by decide, by decide⟩).ug ⟨by decide, by decide⟩, ?_⟩
  · have k := h.v
    unfold Vok at k ⊢
    simp (disch := omega) only [ug_at, ug_nc, ug_np]
    refine ⟨k.1, k.2.1, by omega, fun i => ?_⟩
    have ki := k.2.2.2 i
    by_cases e : i = n
    · subst e
      simp (disch := omega) only [ug_at, ug_nc, ug_np]
      exact ⟨hk, by omega, hc, hs, hb, fun _ => hhh.1⟩
    · simp (disch := first | omega | assumption) only [ug_at, ug_nc, ug_np]
      exact ⟨ki.1, ki.2.1, ki.2.2.1, ki.2.2.2.1, ki.2.2.2.2.1, fun q => ki.2.2.2.2.2 (by omega)⟩
  · have k := h.s
    unfold Sok at k ⊢
    simp (disch := omega) only [ug_at, ug_nc, ug_np]
    exact k
  · have k := h.d
    unfold Dok at k ⊢
    simp (disch := omega) only [ug_at, ug_nc, ug_np]
    exact k
  · have k := h.u
    unfold Uk at k ⊢
    simp (disch := omega) only [ug_at, ug_nc, ug_np]
    exact ⟨⟨by decide, by decide⟩, k.2⟩
theorem Rok.add {G : Mem} {r : Nat} {k hh c s b : Int} (h : Rok (rv G r)) (hk : 0 ≤ k ∧ k ≤ 5) (hhh : 1 ≤ hh ∧ hh ≤ 9) (hc : 0 ≤ c ∧ c ≤ 47) (hs : 0 ≤ s ∧ s ≤ 3) (hb : 0 ≤ b ∧ b ≤ 60) : Rok (rv (rAdd G r k hh c s b) r) := by
  unfold rAdd
  by_cases e : 6 ≤ G r 2
  · rw [if_pos e]; exact h
  · rw [if_neg e]
    have hn : 0 ≤ G r 2 ∧ G r 2 ≤ 6 := h.v.2.2.1
    rw [rv_ug0, rv_ug0, rv_ug, rv_ug, rv_ug, rv_ug, rv_ug]
    have z := h.kid (n := (G r 2).toNat) (by show G r 2 = _; omega) (by omega) hk hhh hc hs hb
    rw [show (((G r 2).toNat : Nat) : Int) = G r 2 by omega] at z
    exact z
theorem Rok.spd {V : Mem} (h : Rok V) {n : Nat} (h6 : n < 20) {v : Int} (hv : 0 ≤ v ∧ v ≤ 15) : Rok (ug V 6 n v) := by
  refine ⟨?_, ?_, ?_, h.z.ug ⟨h6, fun q => absurd q (by decide)⟩, ?_⟩
  · exact h.v
  · have k := h.s
    unfold Sok at k ⊢
    simp (disch := omega) only [ug_at, ug_nc, ug_np]
    refine ⟨k.1, fun i => ?_⟩
    by_cases e : i = n
    · subst e; rw [ug_at]; exact hv
    · rw [ug_np e]; exact k.2 i
  · exact h.d
  · exact h.u
theorem Rok.rdg {V : Mem} (h : Rok V) {n : Nat} (h6 : n < 6) {c t v : Int} (hc : 0 ≤ c ∧ c ≤ 47) (ht : 0 ≤ t ∧ t ≤ 59) (hv : 0 ≤ v ∧ v ≤ 9) : Rok (ug (ug (ug V 7 n c) 8 n t) 9 n v) := by
  refine ⟨h.v, h.s, ?_, ((h.z.ug ⟨h6, fun q => absurd q (by decide)⟩).ug ⟨h6, fun q => absurd q (by decide)⟩).ug ⟨h6, fun q => absurd q (by decide)⟩, h.u⟩
  have k := h.d
  unfold Dok at k ⊢
  simp (disch := omega) only [ug_at, ug_nc, ug_np]
  refine ⟨k.1, fun i => ?_⟩
  have ki := k.2 i
  by_cases e : i = n
  · subst e; simp (disch := omega) only [ug_at, ug_nc, ug_np]; exact ⟨hc, ht, hv⟩
  · simp (disch := first | omega | assumption) only [ug_at, ug_nc, ug_np]; exact ki
theorem Rok.cell {V : Mem} (h : Rok V) {n : Nat} (h6 : n < 6) {v : Int} (hv : 0 ≤ v ∧ v ≤ 47) : Rok (ug V 3 n v) := ⟨h.v.cell hv, h.s, h.d, h.z.ug ⟨h6, fun q => absurd q (by decide)⟩, h.u⟩
theorem Rok.bed {V : Mem} (h : Rok V) {n : Nat} (h6 : n < 6) {v : Int} (hv : 0 ≤ v ∧ v ≤ 60) : Rok (ug V 5 n v) := by
  refine ⟨?_, h.s, h.d, h.z.ug ⟨h6, fun q => absurd q (by decide)⟩, h.u⟩
  have k := h.v
  unfold Vok at k ⊢
  simp (disch := omega) only [ug_at, ug_nc, ug_np]
  refine ⟨k.1, k.2.1, k.2.2.1, fun i => ?_⟩
  have ki := k.2.2.2 i
  by_cases e : i = n
  · subst e; rw [ug_at]; exact ⟨ki.1, ki.2.1, ki.2.2.1, ki.2.2.2.1, hv, ki.2.2.2.2.2⟩
  · rw [ug_np e]; exact ki
theorem Rok.push {V : Mem} (h : Rok V) {n : Nat} (h8 : n < 8) {c b w : Int} (hc : 0 ≤ c ∧ c ≤ 5) (hb : (b = 0 ∧ 0 ≤ w ∧ w ≤ 47) ∨ (b = 1 ∧ 0 ≤ w ∧ w ≤ 60)) : Rok (ug (ug (ug (ug V 10 n c) 11 n b) 12 n w) 0 14 ((n : Int) + 1)) := by
  refine ⟨h.v, h.s, h.d, (((h.z.ug ⟨h8, fun q => absurd q (by decide)⟩).ug ⟨h8, fun q => absurd q (by decide)⟩).ug ⟨h8, fun q => absurd q (by decide)⟩).ug ⟨by decide, by decide⟩, ?_⟩
  have k := h.u
  unfold Uk at k ⊢
  simp (disch := omega) only [ug_at, ug_nc, ug_np]
  refine ⟨by omega, fun j => ?_⟩
  have kj := k.2 j
  by_cases e : j = n
  · subst e; simp (disch := omega) only [ug_at, ug_nc, ug_np]; exact ⟨by omega, hc, fun q => by omega, fun q => by omega⟩
  · simp (disch := first | omega | assumption) only [ug_at, ug_nc, ug_np]; exact kj
/-- the undos' rows go one to the front -/
def vSh (V : Mem) : Mem := ug (fun a b => if (a = 10 ∨ a = 11 ∨ a = 12) ∧ b < 7 then V a (b + 1) else V a b) 0 14 7
theorem rv_sh {G : Mem} {r : Nat} : rv (rSh G r) r = vSh (rv G r) := by
  unfold rSh vSh
  rw [rv_ug0]
  congr 1
  funext x y
  show cg (cg (cg G (r + 10) 1 (r + 10) 0 7) (r + 11) 1 (r + 11) 0 7) (r + 12) 1 (r + 12) 0 7 (r + x) y = _
  unfold cg
  repeat' split
  all_goals first | rfl | (exfalso; omega) | (rw [show 1 + (y - 0) = y + 1 by omega]; first | (rw [show x = 12 by omega]; done) | (rw [show x = 11 by omega]; done) | (rw [show x = 10 by omega]; done))
theorem Rok.sh {V : Mem} (h : Rok V) : Rok (vSh V) := by
  have e : ∀ a b, ¬ (a = 10 ∨ a = 11 ∨ a = 12) → ¬ (a = 0 ∧ b = 14) → vSh V a b = V a b := fun a b h1 h2 => (ug_ne h2).trans (if_neg (fun q => h1 q.1))
  have e2 : ∀ a b, (a = 10 ∨ a = 11 ∨ a = 12) → b < 7 → vSh V a b = V a (b + 1) := fun a b h1 h2 => (ug_nc (by omega)).trans (if_pos ⟨h1, h2⟩)
  have e3 : ∀ a b, (a = 10 ∨ a = 11 ∨ a = 12) → ¬ b < 7 → vSh V a b = V a b := fun a b h1 h2 => (ug_nc (by omega)).trans (if_neg (fun q => h2 q.2))
  refine ⟨h.v, h.s, h.d, fun a b ha hb => ?_, ?_⟩
  · by_cases q : a = 10 ∨ a = 11 ∨ a = 12
    · by_cases q2 : b < 7
      · exfalso
        rcases q with q | q | q <;> subst q <;> rcases hb with hb | hb
        all_goals first | (change 8 ≤ b at hb; omega) | omega
      · rw [e3 a b q q2]; exact h.z a b ha hb
    · rw [e a b q (by rintro ⟨rfl, rfl⟩; rcases hb with hb | hb; exact absurd hb (by decide); exact hb.2.2.2.2.2.2 rfl)]
      exact h.z a b ha hb
  · have k := h.u
    refine ⟨by unfold vSh; rw [ug_at]; decide, fun j => ?_⟩
    by_cases q : j < 7
    · rw [e2 10 j (by omega) q, e2 11 j (by omega) q, e2 12 j (by omega) q]; exact k.2 (j + 1)
    · rw [e3 10 j (by omega) q, e3 11 j (by omega) q, e3 12 j (by omega) q]; exact k.2 j
/-! ===== the class's road and the Model's row ===== -/
def UR (V : Mem) (f : Nat → Int) : Prop := ∀ k c : Nat, (k : Int) < V 0 14 → (c : Int) < V 0 2 → f (74 + 12 * k + 2 * c) = (if V 10 k = (c : Int) ∧ V 11 k = 0 then V 12 k else if (k : Int) + 1 < V 0 14 then f (74 + 12 * (k + 1) + 2 * c) else V 3 c) ∧ f (74 + 12 * k + 2 * c + 1) = (if V 10 k = (c : Int) ∧ V 11 k = 1 then V 12 k else if (k : Int) + 1 < V 0 14 then f (74 + 12 * (k + 1) + 2 * c + 1) else V 5 c)
def MS (V : Mem) (f : Nat → Int) : Prop := f 0 = V 0 2 ∧ f 1 = V 0 0 ∧ f 2 = V 0 1 ∧ f 3 = V 0 8 ∧ f 4 = V 0 10 ∧ f 5 = V 0 14
def MK (V : Mem) (f : Nat → Int) : Prop := ∀ i : Nat, (i : Int) < V 0 2 → f (6 + 5 * i + 0) = V 1 i ∧ f (6 + 5 * i + 1) = V 2 i ∧ f (6 + 5 * i + 2) = V 3 i ∧ f (6 + 5 * i + 3) = V 4 i ∧ f (6 + 5 * i + 4) = V 5 i
def MP6 (V : Mem) (f : Nat → Int) : Prop := ∀ i : Nat, (i : Int) < V 0 8 → f (36 + i) = V 6 i
def MR (V : Mem) (f : Nat → Int) : Prop := ∀ i : Nat, (i : Int) < V 0 10 → f (56 + 3 * i) = V 7 i ∧ f (56 + 3 * i + 1) = V 8 i ∧ f (56 + 3 * i + 2) = V 9 i
def MV (V : Mem) (f : Nat → Int) : Prop := MS V f ∧ MK V f ∧ MP6 V f ∧ MR V f ∧ UR V f
theorem MV.c {V V' : Mem} {f f' : Nat → Int} (hr : Rok V) (h : MV V f) (e : Veq V V') (ef : ∀ y, y < 170 → f' y = f y) : MV V' f' := by
  have e0 : ∀ a b, a ≤ 12 → V' a b = V a b := fun a b ha => (e a b ha).symm
  have h2 := hr.v.2.2.1
  have h8 := hr.s.1
  have h10 := hr.d.1
  have h14 := hr.u.1
  obtain ⟨⟨a0, a1, a2, a3, a4, a5⟩, hk, h6, hm, hu⟩ := h
  refine ⟨?_, fun i hi => ?_, fun i hi => ?_, fun i hi => ?_, fun k c hk1 hc => ?_⟩
  · unfold MS
    simp (disch := decide) only [e0, ef]
    exact ⟨a0, a1, a2, a3, a4, a5⟩
  · rw [e0 0 2 (by decide)] at hi
    simp (disch := omega) only [e0, ef]
    exact hk i hi
  · rw [e0 0 8 (by decide)] at hi
    simp (disch := omega) only [e0, ef]
    exact h6 i hi
  · rw [e0 0 10 (by decide)] at hi
    simp (disch := omega) only [e0, ef]
    exact hm i hi
  · rw [e0 0 14 (by decide)] at hk1
    rw [e0 0 2 (by decide)] at hc
    have z := hu k c hk1 hc
    rw [ef (74 + 12 * k + 2 * c) (by omega), ef (74 + 12 * k + 2 * c + 1) (by omega)]
    simp (disch := decide) only [e0]
    by_cases q : (k : Int) + 1 < V 0 14
    · rw [ef (74 + 12 * (k + 1) + 2 * c) (by omega), ef (74 + 12 * (k + 1) + 2 * c + 1) (by omega)]
      exact z
    · rw [if_neg q, if_neg q] at z ⊢
      exact z
theorem MV.sg {V : Mem} {f : Nat → Int} {v : Int} {f' : Nat → Int} (h : MV V f) (hf : ∀ y, f' y = if y = 1 then v else f y) : MV (ug V 0 0 v) f' := by
  obtain ⟨⟨a0, a1, a2, a3, a4, a5⟩, hk, h6, hm, hu⟩ := h
  unfold MV MS MK MP6 MR UR
  simp (disch := omega) only [ug_at, ug_nc, ug_np, hf]
  simp (disch := omega) only [if_neg]
  exact ⟨⟨a0, rfl, a2, a3, a4, a5⟩, hk, h6, hm, hu⟩
