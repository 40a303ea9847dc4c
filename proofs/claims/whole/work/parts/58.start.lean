/-! THE CLAIM OUT OF ONE WALK OF THE LAW'S BODY. Your part is whole_start (and what it stands on); all else here is the same for every law, but numbers. -/
def R_law : String := "SmallestSpeedLaw"
def lw_P (b : Addr) (xs : List Int32) (args : Array Value) (s : State) : Prop := args = #[.ref b] ∧ s.IntsAt b xs ∧ xs.length ≤ 384 ∧ (Jvm.Cond.and given_1 narrow_1).before args s = true
def lw_Q (_ : Array Value) (s : State) (o : Outcome) (t : State) : Prop := o = .returned (some (.int 1)) ∧ Framed s o t [] 101 1672
def lw_Z (below : List Frame) (a : Array Value) (s : State) : State → Prop := fun t => ∃ o, t.status = .running ∧ Ended t below o ∧ lw_Q a s o t
/-- the law's own end, with 1 on the stack, nothing written that was there before, its room as the claim has it -/
theorem lw_ret {p : Program} {l : Launch} {e : Env} {s : State} {m : MethodId} {below : List Frame} {meth : Method} {c : Code} {b : Nat} (hx : p.tables.exec = Jvm.exec) (hb : c.code = code) (hr : meth.sig.returnType = ret) (hlocks : meth.locks = false) {pc : Nat} {H : Heap} {ls : Array Slot} (hdg : decode code pc = .ok (.ireturn, 1)) : W p l e room_1 s m #[Value.ref b] below meth c H [] 101 1672 (lw_Z below #[Value.ref b] s) (F0 m pc ls [.int 1]) := by
  intro T hT X
  obtain ⟨fs, hret, hrun, hended, hW, hframe⟩ := X.leave (v := some (.int 1)) (hlocks := hlocks) (fun h => by rw [hr] at h; cases h)
  have hmeth' : T.vm.method? m = some meth := X.method'
  refine ⟨T.setFrames fs, ?_, .returned (some (.int 1)), hrun, hended, rfl, ⟨_, rfl⟩, hW, hframe⟩
  jvm_step X.here [X.here.top, hx, hb, hdg, hmeth', hr, ret, narrow_b1]
  (try refine ⟨rfl, ?_⟩); (try refine ⟨rfl, ?_⟩)
  first | (intro acts; rw [hret _ acts rfl rfl rfl]) | rw [hret _ _ rfl rfl rfl]
  exact Steps.refl _
/-- what holds at the law's entry: the machine, the code, the tables' words (any of lw_tbl by 'hts w (by decide +kernel)'), the script of L ints xs at the cell b, what the Statement gives of the start (any of its parts by flat_of_before) -/
def lw_At (p : Program) (s : State) (m : MethodId) (meth : Method) (c : Code) (b L : Nat) (xs : Nat → Int32) : Prop :=
  p.tables.exec = Jvm.exec ∧ c.code = code ∧ meth.sig.returnType = ret ∧ c.maxLocals = 4 ∧ s.vm.findClass R_law = some m.cls ∧ (∀ w ∈ lw_tbl, w.before #[Value.ref b] s = true) ∧ va_X b L xs s s.heap ∧ b < s.heap.size ∧ meth.locks = false ∧ (Jvm.Cond.and given_1 narrow_1).before #[Value.ref b] s = true
/-! ===== from the entry ===== -/
theorem tl_1 {w : Cond} {j : Nat} (h : tables_1_1[j]? = some w) : w ∈ lw_tbl := List.mem_append_right _ (show w ∈ tables_1_1 ++ (tables_1_2 ++ (tables_1_3 ++ (tables_1_4 ++ tables_1_5))) from List.mem_append_left _ (List.mem_of_getElem? h))
theorem tl_2 {w : Cond} {j : Nat} (h : tables_1_2[j]? = some w) : w ∈ lw_tbl := List.mem_append_right _ (show w ∈ tables_1_1 ++ (tables_1_2 ++ (tables_1_3 ++ (tables_1_4 ++ tables_1_5))) from List.mem_append_right _ (List.mem_append_left _ (List.mem_of_getElem? h)))
theorem tl_3 {w : Cond} {j : Nat} (h : tables_1_3[j]? = some w) : w ∈ lw_tbl := List.mem_append_right _ (show w ∈ tables_1_1 ++ (tables_1_2 ++ (tables_1_3 ++ (tables_1_4 ++ tables_1_5))) from List.mem_append_right _ (List.mem_append_right _ (List.mem_append_left _ (List.mem_of_getElem? h))))
theorem tl_4 {w : Cond} {j : Nat} (h : tables_1_4[j]? = some w) : w ∈ lw_tbl := List.mem_append_right _ (show w ∈ tables_1_1 ++ (tables_1_2 ++ (tables_1_3 ++ (tables_1_4 ++ tables_1_5))) from List.mem_append_right _ (List.mem_append_right _ (List.mem_append_right _ (List.mem_append_left _ (List.mem_of_getElem? h)))))
theorem tl_5 {w : Cond} {j : Nat} (h : tables_1_5[j]? = some w) : w ∈ lw_tbl := List.mem_append_right _ (show w ∈ tables_1_1 ++ (tables_1_2 ++ (tables_1_3 ++ (tables_1_4 ++ tables_1_5))) from List.mem_append_right _ (List.mem_append_right _ (List.mem_append_right _ (List.mem_append_right _ (List.mem_of_getElem? h)))))
theorem n_kn {own : String} {idx ci nf : Nat} {fs : List Value} {s : State} {args : Array Value} (h : NSite own idx ci nf fs) (hts : ∀ w ∈ tb, w.before args s = true) : ∃ q : ClassId × (Nat → Nat), ∀ r, vwCl[ci]? = some r → u_Kn s r.1 r.2.1 r.2.2 q.1 q.2 := by
  obtain ⟨CC, T, ty, hc, hin, hty, w1, w2, w3, hdef, hlit⟩ := h
  obtain ⟨cC, iS, hk⟩ := u_known (ws := tb) hts hin (hts _ w2)
  exact ⟨(cC, iS), fun r hr => by rw [hc] at hr; cases hr; exact hk⟩
theorem cls_kn {s : State} {args : Array Value} (hts : ∀ w ∈ tb, w.before args s = true) : ∀ k : Nat, ∃ q : ClassId × (Nat → Nat), ∀ r, vwCl[k]? = some r → u_Kn s r.1 r.2.1 r.2.2 q.1 q.2
  | 0 => n_kn n_X4_42 hts
  | 1 => n_kn n_X11_39 hts
  | 2 => n_kn n_X4_36 hts
  | 3 => n_kn n_X4_18 hts
  | 4 => n_kn n_X11_32 hts
  | 5 => n_kn n_X4_24 hts
  | 6 => n_kn n_X11_7 hts
  | 7 => n_kn n_X11_25 hts
  | 8 => n_kn n_X11_46 hts
  | 9 => n_kn n_X4_30 hts
  | 10 => n_kn n_X4_9 hts
  | 11 => n_kn n_law_7 hts
  | 12 => n_kn n_law_10 hts
  | k + 13 => by
    obtain ⟨q, -⟩ := n_kn n_X4_42 hts
    refine ⟨q, fun r hr => ?_⟩
    have h13 : vwCl.length = 13 := rfl
    rw [List.getElem?_eq_none (by omega)] at hr
    cases hr
theorem nest_kn {s : State} {args : Array Value} (hts : ∀ w ∈ lw_tbl, w.before args s = true) : ∀ q ∈ nestL, va_Nw (.methodLinkNest q.1 q.2.1 q.2.2.1 q.2.2.2) s :=
  List.forall_mem_cons.mpr ⟨va_Nw.of rfl (hts _ (tl_1 (show tables_1_1[32]? = some _ from rfl))), List.forall_mem_cons.mpr ⟨va_Nw.of rfl (hts _ (tl_1 (show tables_1_1[124]? = some _ from rfl))), List.forall_mem_cons.mpr ⟨va_Nw.of rfl (hts _ (tl_1 (show tables_1_1[141]? = some _ from rfl))), List.forall_mem_cons.mpr ⟨va_Nw.of rfl (hts _ (tl_1 (show tables_1_1[147]? = some _ from rfl))), List.forall_mem_cons.mpr ⟨va_Nw.of rfl (hts _ (tl_1 (show tables_1_1[154]? = some _ from rfl))), List.forall_mem_cons.mpr ⟨va_Nw.of rfl (hts _ (tl_1 (show tables_1_1[157]? = some _ from rfl))), List.forall_mem_cons.mpr ⟨va_Nw.of rfl (hts _ (tl_1 (show tables_1_1[161]? = some _ from rfl))), List.forall_mem_cons.mpr ⟨va_Nw.of rfl (hts _ (tl_1 (show tables_1_1[164]? = some _ from rfl))), List.forall_mem_cons.mpr ⟨va_Nw.of rfl (hts _ (tl_1 (show tables_1_1[168]? = some _ from rfl))), List.forall_mem_cons.mpr ⟨va_Nw.of rfl (hts _ (tl_1 (show tables_1_1[171]? = some _ from rfl))), List.forall_mem_cons.mpr ⟨va_Nw.of rfl (hts _ (tl_1 (show tables_1_1[175]? = some _ from rfl))), List.forall_mem_cons.mpr ⟨va_Nw.of rfl (hts _ (tl_1 (show tables_1_1[178]? = some _ from rfl))), List.forall_mem_cons.mpr ⟨va_Nw.of rfl (hts _ (tl_1 (show tables_1_1[182]? = some _ from rfl))), List.forall_mem_cons.mpr ⟨va_Nw.of rfl (hts _ (tl_1 (show tables_1_1[185]? = some _ from rfl))), List.forall_mem_cons.mpr ⟨va_Nw.of rfl (hts _ (tl_1 (show tables_1_1[216]? = some _ from rfl))), List.forall_mem_cons.mpr ⟨va_Nw.of rfl (hts _ (tl_1 (show tables_1_1[221]? = some _ from rfl))), List.forall_mem_cons.mpr ⟨va_Nw.of rfl (hts _ (tl_1 (show tables_1_1[231]? = some _ from rfl))), List.forall_mem_cons.mpr ⟨va_Nw.of rfl (hts _ (tl_1 (show tables_1_1[236]? = some _ from rfl))), fun _ h => absurd h List.not_mem_nil⟩⟩⟩⟩⟩⟩⟩⟩⟩⟩⟩⟩⟩⟩⟩⟩⟩⟩
theorem arr_kn {s : State} {args : Array Value} {ty : FieldType} (h : (Cond.arrayClass ty).before args s = true) (hty : ty = .int ∨ ty = .boolean) : ∃ cA : ClassId, ArrOfT s cA ty ∧ va_RA s cA ty := by
  obtain ⟨cA, kA, comp, h1, h2, h3⟩ := Cond.arrayClass_spec h
  refine ⟨cA, fun n z => ⟨fun k h => (by cases h), kA, h2, comp, h3⟩, ?_⟩
  rcases hty with rfl | rfl
  · exact h1
  · exact h1
def tmS : Nat → Term := fun i => if i = 0 then Term.string "SmallestSpeed$RoadText" 33 else Term.string "SmallestSpeed$RoadText" 52
theorem str_kn {s : State} {args : Array Value} {A : Nat → Prop} (hs : (Jvm.Cond.and given_1 narrow_1).before args s = true) (hA : ∀ a : Nat, a < s.heap.size → ¬ A a) : ∃ adK adV : Nat → Nat, vk_S 2 [4, 5] [[114, 111, 97, 100], [99, 104, 105, 108, 100]] adK adV A s s.heap ∧ ∀ i : Nat, i < 2 → (tmS i).eval args s none [] s = some (.ref (adK i)) := by
  have hf := flat_of_before _ hs
  refine vk_Sof (tm := tmS) (fun i hi => ?_) (fun i hi => ?_) (fun i hi => ?_) (fun i hi => ?_) (fun i hi => ?_) (fun i hi j hj => ?_) (fun i j hi hj hij => ?_) hA
  all_goals rcases (show i = 0 ∨ i = 1 by omega) with rfl | rfl
  · decide
  · decide
  · exact hf (.exactly (.string "SmallestSpeed$RoadText" 33) "java/lang/String") (by decide +kernel)
  · exact hf (.exactly (.string "SmallestSpeed$RoadText" 52) "java/lang/String") (by decide +kernel)
  · exact hf (.eq (.field (.string "SmallestSpeed$RoadText" 33) "java/lang/String" "coder" "B") (.int 0)) (by decide +kernel)
  · exact hf (.eq (.field (.string "SmallestSpeed$RoadText" 52) "java/lang/String" "coder" "B") (.int 0)) (by decide +kernel)
  · exact hf (.arrayOf (.field (.string "SmallestSpeed$RoadText" 33) "java/lang/String" "value" "[B") .byte) (by decide +kernel)
  · exact hf (.arrayOf (.field (.string "SmallestSpeed$RoadText" 52) "java/lang/String" "value" "[B") .byte) (by decide +kernel)
  · exact hf (.eq (.length (.field (.string "SmallestSpeed$RoadText" 33) "java/lang/String" "value" "[B")) (.int 4)) (by decide +kernel)
  · exact hf (.eq (.length (.field (.string "SmallestSpeed$RoadText" 52) "java/lang/String" "value" "[B")) (.int 5)) (by decide +kernel)
  · change j < 4 at hj
    rcases (show j = 0 ∨ j = 1 ∨ j = 2 ∨ j = 3 by omega) with rfl | rfl | rfl | rfl
    · exact hf (.eq (.elem (.field (.string "SmallestSpeed$RoadText" 33) "java/lang/String" "value" "[B") (.int 0)) (.int 114)) (by decide +kernel)
    · exact hf (.eq (.elem (.field (.string "SmallestSpeed$RoadText" 33) "java/lang/String" "value" "[B") (.int 1)) (.int 111)) (by decide +kernel)
    · exact hf (.eq (.elem (.field (.string "SmallestSpeed$RoadText" 33) "java/lang/String" "value" "[B") (.int 2)) (.int 97)) (by decide +kernel)
    · exact hf (.eq (.elem (.field (.string "SmallestSpeed$RoadText" 33) "java/lang/String" "value" "[B") (.int 3)) (.int 100)) (by decide +kernel)
  · change j < 5 at hj
    rcases (show j = 0 ∨ j = 1 ∨ j = 2 ∨ j = 3 ∨ j = 4 by omega) with rfl | rfl | rfl | rfl | rfl
    · exact hf (.eq (.elem (.field (.string "SmallestSpeed$RoadText" 52) "java/lang/String" "value" "[B") (.int 0)) (.int 99)) (by decide +kernel)
    · exact hf (.eq (.elem (.field (.string "SmallestSpeed$RoadText" 52) "java/lang/String" "value" "[B") (.int 1)) (.int 104)) (by decide +kernel)
    · exact hf (.eq (.elem (.field (.string "SmallestSpeed$RoadText" 52) "java/lang/String" "value" "[B") (.int 2)) (.int 105)) (by decide +kernel)
    · exact hf (.eq (.elem (.field (.string "SmallestSpeed$RoadText" 52) "java/lang/String" "value" "[B") (.int 3)) (.int 108)) (by decide +kernel)
    · exact hf (.eq (.elem (.field (.string "SmallestSpeed$RoadText" 52) "java/lang/String" "value" "[B") (.int 4)) (.int 100)) (by decide +kernel)
  · have : j = 1 := by omega
    subst this
    exact Or.inl (hf (.not (.eq (.string "SmallestSpeed$RoadText" 33) (.string "SmallestSpeed$RoadText" 52))) (by decide +kernel))
  · have : j = 0 := by omega
    subst this
    exact Or.inr (hf (.not (.eq (.string "SmallestSpeed$RoadText" 33) (.string "SmallestSpeed$RoadText" 52))) (by decide +kernel))
def sdF (k v : Nat → Nat) (t : Nat) : Nat → Nat := fun i => if i = 0 then k 0 else if i = 1 then k 1 else if i = 100 then v 0 else if i = 101 then v 1 else t
theorem sd_S {k v : Nat → Nat} {t : Nat} {len : List Nat} {byt : List (List Int32)} {A : Nat → Prop} {U : State} {H : Heap} (h : vk_S 2 len byt k v A U H) : vk_S 2 len byt (sdF k v t) (fun i => sdF k v t (i + 100)) A U H := by
  have e1 : ∀ i, i < 2 → sdF k v t i = k i := fun i hi => by
    rcases (show i = 0 ∨ i = 1 by omega) with rfl | rfl <;> rfl
  have e2 : ∀ i, i < 2 → sdF k v t (i + 100) = v i := fun i hi => by
    rcases (show i = 0 ∨ i = 1 by omega) with rfl | rfl <;> rfl
  refine ⟨fun i hi => ?_, fun i j hi hj e => ?_⟩
  · have z := h.1 i hi
    rw [e1 i hi]
    dsimp only
    rw [e2 i hi]
    exact z
  · rw [e1 i hi, e1 j hj] at e
    exact h.2 i j hi hj e
theorem out_kn {s : State} {b : Nat} {A : Nat → Prop} (hs : (Jvm.Cond.and given_1 narrow_1).before #[.ref b] s = true) (hts : ∀ w ∈ lw_tbl, w.before #[.ref b] s = true) (hA : ∀ a : Nat, a < s.heap.size → ¬ A a) : ∃ sd : Nat → Nat, XO sd A s s.heap := by
  have hf := flat_of_before _ hs
  obtain ⟨kk, vv, h1, h2⟩ := str_kn hs hA
  have hp : va_Zq "jdk/internal/util/Preconditions" "SIOOBE_FORMATTER" "Ljava/util/function/BiFunction;" A s s.heap := va_Zqof (hts _ (tl_2 (show tables_1_2[181]? = some _ from rfl))) (hts _ (tl_1 (show tables_1_1[17]? = some _ from rfl))) (hf (.isRef (.static "jdk/internal/util/Preconditions" "SIOOBE_FORMATTER" "Ljava/util/function/BiFunction;")) (by decide +kernel)) hA
  have hc : va_Z "java/lang/String" "COMPACT_STRINGS" "Z" (.int 1) A s s.heap := va_Zof (args := #[.ref b]) (hts _ (tl_2 (show tables_1_2[165]? = some _ from rfl))) (hts _ (tl_1 (show tables_1_1[15]? = some _ from rfl))) (va_eqt (hf (.eq (.static "java/lang/String" "COMPACT_STRINGS" "Z") (.int 1)) (by decide +kernel))) hA
  have hall : ∀ t : Nat, vk_S 2 [4, 5] [[114, 111, 97, 100], [99, 104, 105, 108, 100]] (sdF kk vv t) (fun i => sdF kk vv t (i + 100)) A s s.heap := fun t => sd_S h1
  have hr0 : ∀ t, vk_R RX7 33 "road" (sdF kk vv t 0) s := fun t => vk_R.of (hts _ (tl_2 (show tables_1_2[147]? = some _ from rfl))) (h2 0 (by decide))
  have hr1 : ∀ t, vk_R RX7 52 "child" (sdF kk vv t 1) s := fun t => vk_R.of (hts _ (tl_2 (show tables_1_2[217]? = some _ from rfl))) (h2 1 (by decide))
  rcases hp with hp | ⟨t, hp⟩
  · exact ⟨sdF kk vv 0, hall 0, ⟨hc, Or.inl hp⟩, hr0 0, hr1 0, nest_kn hts⟩
  · exact ⟨sdF kk vv t, hall t, ⟨hc, Or.inr hp⟩, hr0 t, hr1 t, nest_kn hts⟩
theorem locks0 (meth : Method) : ({ meth with name := "law", accessFlags := 0 } : Method).locks = false := by
  unfold Method.locks Method.isSynchronized
  first | rfl | (rw [show hasFlag 0 Acc.synchronized = false from by decide]; rfl) | (simp [hasFlag]; done)
set_option maxHeartbeats 4000000 in
theorem whole_start {p : Program} {e : Env} {s : State} {m : MethodId} {below : List Frame} {meth : Method} {c : Code} (l : Launch) (hflags : l.flags = flags0) {b L : Nat} {xs : Nat → Int32} (hL : L ≤ 384) (C0 : lw_At p s m meth c b L xs) : W p l e room_1 s m #[Value.ref b] below meth c s.heap [] 0 0 (lw_Z below #[Value.ref b] s) (entryFrame m ([Value.ref b] : List Value).toArray 4) := by
  obtain ⟨hx, hb, hr, hml, hown, hts, hX, hbl, hlocks, hgv⟩ := id C0
  have hA : ∀ q : Nat, s.heap.size ≤ q → (fun q : Nat => s.heap.size ≤ q) q := fun _ h => h
  have hbA : ¬ (fun q : Nat => s.heap.size ≤ q) b := Nat.not_le.mpr hbl
  have htb : ∀ w ∈ tb, w.before #[Value.ref b] s = true := tb_before hts
  obtain ⟨f, hf⟩ := Classical.axiomOfChoice (cls_kn htb)
  obtain ⟨tI, hI1, hI2⟩ := arr_kn (htb _ w_161) (Or.inl rfl)
  obtain ⟨tZ, hZ1, hZ2⟩ := arr_kn (htb _ w_162) (Or.inr rfl)
  obtain ⟨sd, hXO⟩ := out_kn (A := fun q : Nat => s.heap.size ≤ q) hgv hts (fun a h => Nat.not_le.mpr h)
  have hK : va_K (fun k => (f k).1, fun k => (f k).2) vwCl (tyl tI tZ) s := ⟨fun k q hq => hf k q hq, fun k q h => by
    match k, h with
    | 0, h => cases h; exact ⟨hI1, hI2⟩
    | 1, h => cases h; exact ⟨hZ1, hZ2⟩
    | k + 2, h => cases h⟩
  generalize hD : ((fun k => (f k).1, fun k => (f k).2) : va_G) = D at hK
  have C : Cx M_L_law p s m #[.ref b] { meth with name := "law", accessFlags := 0 } c D tI tZ sd (fun q : Nat => s.heap.size ≤ q) := ⟨hx, hb, hml, hr, locks0 meth, rfl, hown, htb, hK, hA, hXO⟩
  have Wk : Wd D tI tZ (fun _ => 0) sd (fun q : Nat => s.heap.size ≤ q) 0 (ls []) s s.heap [] := ⟨fun k q h => by simp [aw] at h, ⟨fun i j p q h => by simp [aw] at h, fun k q h => by simp [aw] at h⟩, va_S.rf, fun i o h => by simp [ls] at h⟩
  have hl := lv_entry ([.ref b]) (n := 4) (Nat.le_of_ble_eq_true rfl)
  rw [lg_entry_eq]
  generalize (lg_sl ([.ref b]) ++ List.replicate (4 - (lg_sl ([.ref b])).length) Slot.unset).toArray = ls0 at hl ⊢
  have hl : lv_has ls0 4 [(0, .ref b)] := hl
  refine lw_new C Wk dL_law_0 n_law_7 (fun i o h => by simp [ls] at h) (by decide) (by decide) (fun ad1 H1 ha1 Wk1 => ?_)
  refine lv_dup hx hb dL_law_3 rfl ?_
  have g1 : gl (([] : List Ob) ++ [.inr (11, [.null, .null, .null, .null, .int 0, .int 0, .null, .null, .null, .null, .int 0, .int 0, .int 0, .int 0, .int 0])]) := fun o ho => by
    rw [List.nil_append, List.mem_singleton] at ho
    subst ho
    exact ork_up (gl_new n_law_7) (Nat.zero_le _)
  have e1 : su (ls []) 0 (.inr (11, [.null, .null, .null, .null, .int 0, .int 0, .null, .null, .null, .null, .int 0, .int 0, .int 0, .int 0, .int 0])) = ls (([] : List Ob) ++ [.inr (11, [.null, .null, .null, .null, .int 0, .int 0, .null, .null, .null, .null, .int 0, .int 0, .int 0, .int 0, .int 0])]) := ls_push (pre := []) (mid := []) (c := 0) rfl rfl
  rw [e1] at Wk1
  refine lw_callI (b := 0) (N1 := 86) (S1 := ls (clsC 0)) C Wk1 hl.1 dL_law_4 s_L_law_9 (c_X11 [] g1).1 (Nat.le_of_ble_eq_true rfl) ⟨Nat.le_of_ble_eq_true rfl, Nat.le_of_ble_eq_true rfl⟩ (fun ad2 H2 locs2 ha2 Wk2 => ?_)
  rw [← ha2 0 (by decide)]
  refine lv_astore_n (lv' := [(1, .ref (ad2 0)), (0, .ref b)]) hx hb dL_law_7 rfl hl (by decide) rfl (fun ls1 hl1 => ?_)
  have g2 : gl (clsC 0) := by
    have z := (c_X11 [] g1).2
    exact z
  refine lw_new C Wk2 dL_law_8 n_law_10 (gl_s (pre := clsC 0) (mid := []) (c := 0) (by rw [List.append_nil]; exact g2) rfl |> fun z => by rw [List.append_nil] at z; exact z) (by decide) (by decide) (fun ad3 H3 ha3 Wk3 => ?_)
  refine lv_dup hx hb dL_law_11 rfl ?_
  have g3 : gl (clsC 0 ++ [.inr (12, [.null, .null, .null, .null, .long 0, .long 0, .null, .null, .int 0, .null, .null, .null, .null, .null, .null, .int 0, .int 0, .int 0, .int 0, .int 0, .null, .null])]) := gl_push (pre := clsC 0) (mid := []) (by rw [List.append_nil]; exact g2) rfl (gl_new n_law_10)
  have e3 : su (ls (clsC 0)) 86 (.inr (12, [.null, .null, .null, .null, .long 0, .long 0, .null, .null, .int 0, .null, .null, .null, .null, .null, .null, .int 0, .int 0, .int 0, .int 0, .int 0, .null, .null])) = ls (clsC 0 ++ [.inr (12, [.null, .null, .null, .null, .long 0, .long 0, .null, .null, .int 0, .null, .null, .null, .null, .null, .null, .int 0, .int 0, .int 0, .int 0, .int 0, .null, .null])]) := by
    have z := ls_push (pre := clsC 0) (mid := []) (c := 0) (o := .inr (12, [.null, .null, .null, .null, .long 0, .long 0, .null, .null, .int 0, .null, .null, .null, .null, .null, .null, .int 0, .int 0, .int 0, .int 0, .int 0, .null, .null])) (mid' := [.inr (12, [.null, .null, .null, .null, .long 0, .long 0, .null, .null, .int 0, .null, .null, .null, .null, .null, .null, .int 0, .int 0, .int 0, .int 0, .int 0, .null, .null])]) rfl rfl
    rw [List.append_nil] at z
    exact z
  rw [e3] at Wk3
  refine lw_callI (b := 86) (N1 := 101) (S1 := MM G0) C Wk3 hl1.1 dL_law_12 s_L_law_12 (c_X12 g3) (Nat.le_of_ble_eq_true rfl) ⟨Nat.le_of_ble_eq_true rfl, Nat.le_of_ble_eq_true rfl⟩ (fun ad4 H4 locs4 ha4 Wk4 => ?_)
  rw [← ha4 86 (by decide)]
  have h20 : ad4 0 = ad2 0 := (ha4 0 (by decide)).trans (ha3 0 (by decide))
  rw [← h20] at hl1
  refine lv_astore_n (lv' := [(2, .ref (ad4 86)), (1, .ref (ad4 0)), (0, .ref b)]) hx hb dL_law_15 rfl hl1 (by decide) rfl (fun ls2 hl2 => ?_)
  refine lv_iconst (v := iI ((0 : Nat) : Int)) hx hb dL_law_16 rfl ?_
  refine lv_istore_n (lv' := [(3, .int (iI ((0 : Nat) : Int))), (2, .ref (ad4 86)), (1, .ref (ad4 0)), (0, .ref b)]) hx hb dL_law_17 rfl hl2 (by decide) rfl (fun ls3 hl3 => ?_)
  refine law_loop C hX hbl hbA hL (fun G1 H5 locs5 ls5 Wk5 => ?_) (L + 6) 0 (by omega) (by omega) G0 H4 locs4 ls3 rel_0 Wk4 (lv_sub hl3 [3, 2, 1, 0] rfl)
  refine lv_iconst (v := 1) hx hb dL_law_1104 (by decide) ?_
  refine va_forget (fun q hq => Wk5.2.2.1.2.2 q hq) ?_
  exact lw_ret hx hb hr hlocks dL_law_1105
