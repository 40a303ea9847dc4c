/-! ===== THE SMALL MACHINE: configurations by numbers of cells, and what they say of the JVM's ===== -/
/-! the words that all methods share -/
def tb : List Cond := lw_tbl.filter goodWord
theorem tb_in {w : Cond} (i : Nat) (h : lw_tbl[i]? = some w) (g : goodWord w = true) : w ∈ tb := List.mem_filter.mpr ⟨List.mem_of_getElem? h, g⟩
theorem tb_gd : GoodIn tb tb := fun _ h => ⟨h, good_of_word (List.mem_filter.mp h).2⟩
theorem tb_gc {w : Cond} (h : w ∈ tb) : GoodIn tb (w :: tb) := fun v hv => by
  rcases List.mem_cons.mp hv with rfl | h2
  · exact tb_gd _ h
  · exact tb_gd _ h2
theorem tb_before {a : Array Value} {s : State} (h : ∀ w ∈ lw_tbl, w.before a s = true) : ∀ w ∈ tb, w.before a s = true := fun w hw => h w (List.mem_filter.mp hw).1
/-! values: a reference is a number of a cell; a float stands for a text constant -/
def cv (ad sd : Nat → Nat) : Value → Value
  | .ref a => .ref (ad a)
  | .float u => .ref (sd u.toNat)
  | v => v
theorem cv_cat {ad sd : Nat → Nat} (v : Value) : (cv ad sd v).category = v.category := by cases v <;> rfl
theorem cv_cats {ad sd : Nat → Nat} (l : List Value) : ((l.map (cv ad sd)).map fun v => v.category).sum = (l.map fun v => v.category).sum := by
  rw [List.map_map]
  congr 1
  apply List.map_congr_left
  intro v _
  exact cv_cat v
def vrk (N : Nat) : Value → Prop
  | .ref a => a < N
  | _ => True
theorem cv_agree {ad ad' sd : Nat → Nat} {N : Nat} (h : ∀ i, i < N → ad' i = ad i) {v : Value} (hv : vrk N v) : cv ad' sd v = cv ad sd v := by
  cases v <;> first | rfl | (show Value.ref _ = Value.ref _; rw [h _ hv])
/-! cells -/
abbrev Ob : Type := (Bool × Nat × (Nat → Int32)) ⊕ (Nat × List Value)
abbrev St : Type := Nat → Option Ob
def su (S : St) (i : Nat) (o : Ob) : St := fun j => if j = i then some o else S j
theorem su_eq {S : St} {i : Nat} {o : Ob} : su S i o i = some o := if_pos rfl
theorem su_ne {S : St} {i j : Nat} {o : Ob} (h : j ≠ i) : su S i o j = S j := if_neg h
def co (tI tZ : ClassId) (ad sd : Nat → Nat) : Ob → va_E
  | .inl x => .inl ((if x.1 = true then tZ else tI), x.2.1, .inl x.2.2)
  | .inr x => .inr (x.1, x.2.map (cv ad sd))
def aw (tI tZ : ClassId) (ad sd : Nat → Nat) (N : Nat) (S : St) : va_W := (List.range N).map fun i => (ad i, match S i with | some o => co tI tZ ad sd o | none => .inr (0, []))
theorem aw_len {tI tZ : ClassId} {ad sd : Nat → Nat} {N : Nat} {S : St} : (aw tI tZ ad sd N S).length = N := by simp [aw]
theorem aw_get {tI tZ : ClassId} {ad sd : Nat → Nat} {N : Nat} {S : St} {i : Nat} (hi : i < N) : (aw tI tZ ad sd N S)[i]? = some (ad i, match S i with | some o => co tI tZ ad sd o | none => .inr (0, [])) := by
  simp [aw, hi]
theorem aw_at {tI tZ : ClassId} {ad sd : Nat → Nat} {N : Nat} {S : St} {i : Nat} {o : Ob} (hi : i < N) (h : S i = some o) : (aw tI tZ ad sd N S)[i]? = some (ad i, co tI tZ ad sd o) := by
  rw [aw_get hi, h]
theorem aw_set {tI tZ : ClassId} {ad sd : Nat → Nat} {N : Nat} {S : St} {i : Nat} {o : Ob} : (aw tI tZ ad sd N S).set i (ad i, co tI tZ ad sd o) = aw tI tZ ad sd N (su S i o) := by
  apply List.ext_getElem?
  intro j
  by_cases hj : j < N
  · rw [aw_get hj, List.getElem?_set]
    by_cases e : i = j
    · subst e
      rw [if_pos rfl, if_pos (by rw [aw_len]; exact hj), su_eq]
    · rw [if_neg e, aw_get hj, su_ne (Ne.symm e)]
  · rw [List.getElem?_eq_none (by rw [List.length_set, aw_len]; omega), List.getElem?_eq_none (by rw [aw_len]; omega)]
def ork (N : Nat) : Ob → Prop
  | .inl _ => True
  | .inr x => ∀ v ∈ x.2, vrk N v
def sok (N : Nat) (S : St) : Prop := ∀ i o, S i = some o → i < N
def srk (N : Nat) (S : St) : Prop := ∀ i o, S i = some o → ork N o
theorem sok_su {N i : Nat} {S : St} {o : Ob} (h : sok N S) (hi : i < N) : sok N (su S i o) := by
  intro j o' hj
  by_cases e : j = i
  · omega
  · rw [su_ne e] at hj
    exact h j o' hj
theorem co_agree {tI tZ : ClassId} {ad ad' sd : Nat → Nat} {N : Nat} (h : ∀ i, i < N → ad' i = ad i) {o : Ob} (ho : ork N o) : co tI tZ ad' sd o = co tI tZ ad sd o := by
  cases o with
  | inl x => rfl
  | inr x =>
    show Sum.inr (x.1, x.2.map (cv ad' sd)) = Sum.inr (x.1, x.2.map (cv ad sd))
    congr 2
    exact List.map_congr_left (fun v hv => cv_agree h (ho v hv))
theorem aw_push {tI tZ : ClassId} {ad ad' sd : Nat → Nat} {N : Nat} {S : St} {o : Ob} (h : ∀ i, i < N → ad' i = ad i) (hr : srk N S) :
    aw tI tZ ad sd N S ++ [(ad' N, co tI tZ ad' sd o)] = aw tI tZ ad' sd (N + 1) (su S N o) := by
  apply List.ext_getElem?
  intro j
  by_cases hj : j < N
  · rw [List.getElem?_append_left (by rw [aw_len]; exact hj), aw_get hj, aw_get (by omega), su_ne (by omega), h j hj]
    cases e : S j with
    | none => rfl
    | some o' =>
      show some (ad j, co tI tZ ad sd o') = some (ad j, co tI tZ ad' sd o')
      rw [co_agree h (hr j o' e)]
  · by_cases e : j = N
    · subst e
      rw [List.getElem?_append_right (by rw [aw_len]; exact Nat.le_refl _), aw_len, aw_get (by omega), su_eq, Nat.sub_self]
      rfl
    · rw [List.getElem?_eq_none (by rw [List.length_append, aw_len]; simp; omega), List.getElem?_eq_none (by rw [aw_len]; omega)]
/-! locals -/
def lok (ls : Array Slot) (nL : Nat) (ad sd : Nat → Nat) (L : List (Option Value)) : Prop := ls.size = nL ∧ lv_wf ls ∧ ∀ (i : Nat) (v : Value), L[i]? = some (some v) → ls[i]? = some (.val (cv ad sd v))
def prs (ad sd : Nat → Nat) (L : List (Option Value)) : List (Nat × Value) := (List.range L.length).filterMap fun j => match L[j]? with | some (some v) => some (j, cv ad sd v) | _ => none
theorem prs_in {ad sd : Nat → Nat} {L : List (Option Value)} {j : Nat} {v : Value} (h : L[j]? = some (some v)) : (j, cv ad sd v) ∈ prs ad sd L :=
  List.mem_filterMap.mpr ⟨j, List.mem_range.mpr (List.getElem?_eq_some_iff.mp h).1, by rw [h]⟩
theorem prs_of {ad sd : Nat → Nat} {L : List (Option Value)} {q : Nat × Value} (h : q ∈ prs ad sd L) : ∃ v, L[q.1]? = some (some v) ∧ q.2 = cv ad sd v := by
  obtain ⟨j, -, hj⟩ := List.mem_filterMap.mp h
  split at hj
  next v e =>
    cases hj
    exact ⟨v, e, rfl⟩
  next => cases hj
theorem lok_prs {ls : Array Slot} {nL : Nat} {ad sd : Nat → Nat} {L : List (Option Value)} (h : lok ls nL ad sd L) : lv_has ls nL (prs ad sd L) := by
  refine ⟨h.1, h.2.1, fun q hq => ?_⟩
  obtain ⟨v, e1, e2⟩ := prs_of hq
  rw [e2]
  exact h.2.2 _ _ e1
def kl (L : List (Option Value)) : Nat → List (Option Value)
  | 0 => L
  | i + 1 => match L[i]? with
    | some (some v) => if v.category = 2 then L.set i none else L
    | _ => L
def l1 (L : List (Option Value)) (i : Nat) (v : Value) : List (Option Value) := (kl L i).set i (some v)
def l2 (L : List (Option Value)) (i : Nat) (v : Value) : List (Option Value) := ((kl L i).set i (some v)).set (i + 1) none
theorem kl_of {L : List (Option Value)} {i j : Nat} {w : Value} (h : (kl L i)[j]? = some (some w)) : L[j]? = some (some w) ∧ ¬ (j + 1 = i ∧ w.category = 2) := by
  cases i with
  | zero => exact ⟨h, fun q => by omega⟩
  | succ i =>
    have hk : kl L (i + 1) = match L[i]? with
      | some (some v) => if v.category = 2 then L.set i none else L
      | _ => L := rfl
    have hn : ∀ o : Option (Option Value), L[i]? = o → (∀ v, o = some (some v) → ¬ v.category = 2) → L[j]? = some (some w) → L[j]? = some (some w) ∧ ¬ (j + 1 = i + 1 ∧ w.category = 2) := by
      intro o ho hv hj
      refine ⟨hj, fun q => ?_⟩
      have e2 : j = i := by omega
      subst e2
      rw [ho] at hj
      exact hv w hj q.2
    cases hc : L[i]? with
    | none =>
      simp only [hk, hc] at h
      exact hn none hc (fun v q => by cases q) h
    | some o =>
      cases o with
      | none =>
        simp only [hk, hc] at h
        exact hn _ hc (fun v q => by cases q) h
      | some v =>
        simp only [hk, hc] at h
        by_cases c2 : v.category = 2
        · rw [if_pos c2, List.getElem?_set] at h
          by_cases e2 : i = j
          · rw [if_pos e2] at h
            split at h <;> cases h
          · rw [if_neg e2] at h
            exact ⟨h, fun q => e2 (by omega)⟩
        · rw [if_neg c2] at h
          exact hn _ hc (fun v' q => by cases q; exact c2) h
theorem lok_s1 {ls : Array Slot} {nL i : Nat} {ad sd : Nat → Nat} {L : List (Option Value)} {v : Value} (h : lv_has ls nL ((i, cv ad sd v) :: (prs ad sd L).filter (fun q => !(q.1 == i) && !(q.1 + 1 == i && q.2.category == 2)))) : lok ls nL ad sd (l1 L i v) := by
  refine ⟨h.1, h.2.1, fun j w hj => ?_⟩
  unfold l1 at hj
  rw [List.getElem?_set] at hj
  by_cases e : i = j
  · rw [if_pos e] at hj
    split at hj
    · cases hj
      subst e
      exact h.2.2 (i, cv ad sd v) List.mem_cons_self
    · cases hj
  · rw [if_neg e] at hj
    obtain ⟨h1, h2⟩ := kl_of hj
    refine h.2.2 (j, cv ad sd w) (List.mem_cons_of_mem _ (List.mem_filter.mpr ⟨prs_in h1, ?_⟩))
    have e' : ¬ j = i := fun q => e q.symm
    simp only [cv_cat]
    simp [e']
    exact Classical.or_iff_not_imp_left.mpr (fun q1 q2 => h2 ⟨Classical.not_not.mp q1, q2⟩)
theorem lok_s2 {ls : Array Slot} {nL i : Nat} {ad sd : Nat → Nat} {L : List (Option Value)} {v : Value} (h : lv_has ls nL ((i, cv ad sd v) :: (prs ad sd L).filter (fun q => !(q.1 == i) && (!(q.1 == i + 1) && !(q.1 + 1 == i && q.2.category == 2))))) : lok ls nL ad sd (l2 L i v) := by
  refine ⟨h.1, h.2.1, fun j w hj => ?_⟩
  unfold l2 at hj
  rw [List.getElem?_set] at hj
  by_cases e1 : i + 1 = j
  · rw [if_pos e1] at hj
    split at hj <;> cases hj
  · rw [if_neg e1, List.getElem?_set] at hj
    by_cases e : i = j
    · rw [if_pos e] at hj
      split at hj
      · cases hj
        subst e
        exact h.2.2 (i, cv ad sd v) List.mem_cons_self
      · cases hj
    · rw [if_neg e] at hj
      obtain ⟨h1, h2⟩ := kl_of hj
      refine h.2.2 (j, cv ad sd w) (List.mem_cons_of_mem _ (List.mem_filter.mpr ⟨prs_in h1, ?_⟩))
      have e' : ¬ j = i := fun q => e q.symm
      have e1' : ¬ j = i + 1 := fun q => e1 q.symm
      simp only [cv_cat]
      simp [e', e1']
      exact Classical.or_iff_not_imp_left.mpr (fun q1 q2 => h2 ⟨Classical.not_not.mp q1, q2⟩)
theorem lok_agree {ls : Array Slot} {nL N : Nat} {ad ad' sd : Nat → Nat} {L : List (Option Value)} (h : lok ls nL ad sd L) (ha : ∀ i, i < N → ad' i = ad i) (hL : ∀ v, some v ∈ L → vrk N v) : lok ls nL ad' sd L :=
  ⟨h.1, h.2.1, fun i v hi => by rw [cv_agree ha (hL v (List.mem_of_getElem? hi))]; exact h.2.2 i v hi⟩
def de : List Value → List (Option Value)
  | [] => []
  | v :: vs => if v.category = 2 then some v :: none :: de vs else some v :: de vs
theorem de_in {ad sd : Nat → Nat} (n : Nat) : ∀ (vs : List Value) (i j : Nat) (v : Value), (de vs ++ List.replicate n none)[j]? = some (some v) → (i + j, cv ad sd v) ∈ lv_args i (vs.map (cv ad sd))
  | [], i, j, v, h => by
    have h1 : (some v : Option Value) ∈ List.replicate n none := List.mem_of_getElem? h
    have := List.eq_of_mem_replicate h1
    cases this
  | w :: vs, i, j, v, h => by
    unfold de at h
    show (i + j, cv ad sd v) ∈ (i, cv ad sd w) :: lv_args (if (cv ad sd w).category = 2 then i + 2 else i + 1) (vs.map (cv ad sd))
    rw [cv_cat]
    by_cases c2 : w.category = 2
    · rw [if_pos c2] at h ⊢
      match j, h with
      | 0, h =>
        cases h
        exact List.mem_cons_self
      | 1, h => cases h
      | j + 2, h =>
        have := de_in (ad := ad) (sd := sd) n vs (i + 2) j v h
        rw [show i + (j + 2) = i + 2 + j by omega]
        exact List.mem_cons_of_mem _ this
    · rw [if_neg c2] at h ⊢
      match j, h with
      | 0, h =>
        cases h
        exact List.mem_cons_self
      | j + 1, h =>
        have := de_in (ad := ad) (sd := sd) n vs (i + 1) j v h
        rw [show i + (j + 1) = i + 1 + j by omega]
        exact List.mem_cons_of_mem _ this
theorem lg_len (ad sd : Nat → Nat) : ∀ vs : List Value, (lg_sl (vs.map (cv ad sd))).length = (de vs).length
  | [] => rfl
  | v :: vs => by
    have := lg_len ad sd vs
    show ((if (cv ad sd v).category = 2 then [Slot.val _, Slot.second] else [Slot.val _]) ++ lg_sl (vs.map (cv ad sd))).length = _
    rw [cv_cat, List.length_append, this, show de (v :: vs) = if v.category = 2 then some v :: none :: de vs else some v :: de vs from rfl]
    by_cases c2 : v.category = 2
    · rw [if_pos c2, if_pos c2]; simp <;> omega
    · rw [if_neg c2, if_neg c2]; simp <;> omega
/-! what stands outside: the text constants, String's switch -/
def XO (sd : Nat → Nat) (A : Nat → Prop) (U : State) (H : Heap) : Prop :=
  vk_S 2 [4, 5] [[114, 111, 97, 100], [99, 104, 105, 108, 100]] sd (fun i => sd (i + 100)) A U H ∧ (va_Z "java/lang/String" "COMPACT_STRINGS" "Z" (.int 1) A U H ∧ (va_Z "jdk/internal/util/Preconditions" "SIOOBE_FORMATTER" "Ljava/util/function/BiFunction;" .null A U H ∨ va_Z "jdk/internal/util/Preconditions" "SIOOBE_FORMATTER" "Ljava/util/function/BiFunction;" (.ref (sd 200)) A U H)) ∧ vk_R RX7 33 "road" (sd 0) U ∧ vk_R RX7 52 "child" (sd 1) U ∧ ∀ q ∈ nestL, va_Nw (.methodLinkNest q.1 q.2.1 q.2.2.1 q.2.2.2) U
theorem XO.same {sd : Nat → Nat} {A : Nat → Prop} {u U : State} {H : Heap} (hv : U.vm = u.vm) (h : XO sd A u H) : XO sd A U H := by
  obtain ⟨h1, h2, h3, h4, h5⟩ := h
  have al : u.vm.Alike U.vm := by rw [hv]; exact Vm.Alike.refl _
  exact ⟨h1.moved al, ⟨h2.1.moved al, h2.2.imp (fun h => h.moved al) (fun h => h.moved al)⟩, h3.same hv, h4.same hv, fun q hq => va_Nw.same rfl hv.symm (h5 q hq)⟩
theorem XO.warm {sd : Nat → Nat} {A : Nat → Prop} {s U : State} {H : Heap} (hW : s.WarmedH U.vm) (h : XO sd A s H) : XO sd A U H := by
  obtain ⟨h1, h2, h3, h4, h5⟩ := h
  exact ⟨h1.moved hW.alike, ⟨h2.1.moved hW.alike, h2.2.imp (fun h => h.moved hW.alike) (fun h => h.moved hW.alike)⟩, h3.warm hW, h4.warm hW, fun q hq => va_Nw.warmM hW (h5 q hq)⟩
theorem XO.kept {sd : Nat → Nat} {A : Nat → Prop} {U : State} {H H1 : Heap} (h : XO sd A U H) (hq : ∀ a : Nat, a < H.size → ¬ A a → H1[a]? = H[a]?) : XO sd A U H1 := by
  obtain ⟨h1, h2, h3, h4, h5⟩ := h
  exact ⟨h1.kept hq, ⟨h2.1.kept hq, h2.2.imp (fun h => h.kept hq) (fun h => h.kept hq)⟩, h3, h4, h5⟩
theorem XO.narrow {sd : Nat → Nat} {A B : Nat → Prop} {U : State} {H : Heap} (h : XO sd A U H) (hAB : ∀ q, B q → A q) : XO sd B U H := by
  obtain ⟨h1, h2, h3, h4, h5⟩ := h
  exact ⟨h1.narrow hAB, ⟨h2.1.narrow hAB, h2.2.imp (fun h => h.narrow hAB) (fun h => h.narrow hAB)⟩, h3, h4, h5⟩
/-! methods: name, bytes, locals, what is returned, room -/
abbrev MI : Type := MethodName × ByteArray × Nat × Option FieldType × Room
abbrev tyl (tI tZ : ClassId) : List (ClassId × FieldType) := [(tI, .int), (tZ, .boolean)]
abbrev wsM (M : MI) : List Cond := .code M.1 M.2.1 M.2.2.1 M.2.2.2.1 :: tb
def Cx (M : MI) (p : Program) (s : State) (m : MethodId) (args : Array Value) (meth : Method) (c : Code) (D : va_G) (tI tZ : ClassId) (sd : Nat → Nat) (A : Nat → Prop) : Prop :=
  p.tables.exec = Jvm.exec ∧ c.code = M.2.1 ∧ c.maxLocals = M.2.2.1 ∧ meth.sig.returnType = M.2.2.2.1 ∧ meth.locks = false ∧ meth.name = M.1.name ∧ s.vm.findClass M.1.cls = some m.cls ∧ (∀ w ∈ tb, w.before args s = true) ∧ va_K D vwCl (tyl tI tZ) s ∧ (∀ q, s.heap.size ≤ q → A q) ∧ XO sd A s s.heap
def Wd (D : va_G) (tI tZ : ClassId) (ad sd : Nat → Nat) (A : Nat → Prop) (N : Nat) (S : St) (s : State) (H : Heap) (locs : List Loc) : Prop :=
  va_P D vwCl (aw tI tZ ad sd N S) H ∧ va_D A (aw tI tZ ad sd N S) ∧ va_S A s.heap H locs ∧ sok N S
def Qr (D : va_G) (tI tZ : ClassId) (ad sd : Nat → Nat) (A : Nat → Prop) (N : Nat) (out : Option Value) (N' : Nat) (S' : St) : Array Value → State → Outcome → State → Prop := fun _ st oc t =>
  ∃ ad' : Nat → Nat, N ≤ N' ∧ (∀ i, i < N → ad' i = ad i) ∧ (N' = N → ad' = ad) ∧ oc = .returned (out.map (cv ad' sd)) ∧ va_P D vwCl (aw tI tZ ad' sd N' S') t.heap ∧ va_D A (aw tI tZ ad' sd N' S') ∧ va_F A st t ∧ sok N' S'
/-- from here the method ends, with this answer and these cells -/
def Rn (M : MI) (pc : Nat) (L : List (Option Value)) (st : List Value) (N : Nat) (S : St) (k n : Nat) (out : Option Value) (N' : Nat) (S' : St) : Prop :=
  ∀ ⦃p : Program⦄ ⦃l : Launch⦄ ⦃e : Env⦄ ⦃s : State⦄ ⦃m : MethodId⦄ ⦃args : Array Value⦄ ⦃below : List Frame⦄ ⦃meth : Method⦄ ⦃c : Code⦄ ⦃D : va_G⦄ ⦃tI tZ : ClassId⦄ ⦃ad sd : Nat → Nat⦄ ⦃A : Nat → Prop⦄ ⦃H : Heap⦄ ⦃locs : List Loc⦄ ⦃ls : Array Slot⦄,
    Cx M p s m args meth c D tI tZ sd A → Wd D tI tZ ad sd A N S s H locs → lok ls M.2.2.1 ad sd L →
    W p l e M.2.2.2.2 s m args below meth c H locs k n (MQ below (Qr D tI tZ ad sd A N out N' S') args s M.2.2.2.2.cells M.2.2.2.2.slots A) (F0 m pc ls (st.map (cv ad sd)))
/-- the method, called with these values in these cells, ends so -/
def Mt (M : MI) (as : List Value) (N : Nat) (S : St) (out : Option Value) (N' : Nat) (S' : St) : Prop :=
  ∀ (l : Launch) (D : va_G) (tI tZ : ClassId) (ad sd : Nat → Nat) (sz : Nat), Met l M.1 (wsM M) M.2.2.2.2
    (va_Pc (as.map (cv ad sd)) (fun U => U.heap.size = sz ∧ va_P D vwCl (aw tI tZ ad sd N S) U.heap ∧ va_D (fun _ => True) (aw tI tZ ad sd N S) ∧ va_K D vwCl (tyl tI tZ) U ∧ XO sd (va_A (aw tI tZ ad sd N S) sz) U U.heap ∧ sok N S))
    (Qr D tI tZ ad sd (va_A (aw tI tZ ad sd N S) sz) N out N' S') M.2.2.2.2.cells M.2.2.2.2.slots (va_A (aw tI tZ ad sd N S) sz)
theorem Mt.of {M : MI} {as : List Value} {N : Nat} {S : St} {out : Option Value} {N' : Nat} {S' : St} {L : List (Option Value)} (hp : plainFor M.1 = true) (hl : (de as).length ≤ M.2.2.1) (hL : de as ++ List.replicate (M.2.2.1 - (de as).length) none = L)
    (h : Rn M 0 L [] N S 0 0 out N' S') : Mt M as N S out N' S' := by
  intro l D tI tZ ad sd sz
  refine va_MetF (cc := M.2.1) (maxL := M.2.2.1) (ret := M.2.2.2.1) hp rfl ?_
  intro p e s m args below meth c s₁ B hml hv
  obtain ⟨rfl, hsz, hP, hD0, hK, hX, hok⟩ := hv
  have hts := atoms_spec (ws := wsM M) B.pre
  subst hsz
  have C : Cx M p s m (as.map (cv ad sd)).toArray meth c D tI tZ sd (va_A (aw tI tZ ad sd N S) s.heap.size) :=
    ⟨B.exec, B.bytes, hml, B.returns, B.notSynchronized, (name_of_methodNamed B.named B.method).1, findClass_of_methodNamed B.named, fun w hw => hts w (List.mem_cons_of_mem _ hw), hK, fun q hq => Or.inr hq, hX⟩
  have he := lv_entry (as.map (cv ad sd)) (n := M.2.2.1) (by rw [lg_len]; exact hl)
  rw [lg_entry_eq]
  refine h C ⟨hP, hD0.self, va_S.rf, hok⟩ ⟨he.1, he.2.1, fun i v hi => ?_⟩
  rw [← hL] at hi
  have h2 := de_in (ad := ad) (sd := sd) _ as 0 i v hi
  rw [Nat.zero_add] at h2
  exact he.2.2 _ h2
theorem W.mono {p : Program} {l : Launch} {e : Env} {R : Room} {s : State} {m : MethodId} {args : Array Value} {below : List Frame} {meth : Method} {c : Code} {H : Heap} {locs : List Loc} {cells slots : Nat} {Q Q' : State → Prop} {g : JFrame} (hQ : ∀ t, Q t → Q' t)
    (h : W p l e R s m args below meth c H locs cells slots Q g) : W p l e R s m args below meth c H locs cells slots Q' g := by
  intro T hT X
  obtain ⟨t, a, b⟩ := h T hT X
  exact ⟨t, a, hQ t b⟩
