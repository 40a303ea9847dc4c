/-! ===== ROWS: an instruction of the small machine each ===== -/
section ROWS
variable {M : MI} {N k n N' : Nat} {S S' : St} {out : Option Value} {pc : Nat} {L : List (Option Value)} {st : List Value}
theorem r_iconst {z : Int} (hd : decode M.2.1 pc = .ok (.iconst z, 1)) 
    (kk : Rn M (pc + 1) L (.int (Int32.ofInt z) :: st) N S k n out N' S') : Rn M pc L (st) N S k n out N' S' := by
  intro p l e s m args below meth c D tI tZ ad sd A H locs ls C Wk hL
  exact lv_iconst C.1 C.2.1 hd rfl (kk C Wk hL)
theorem r_bipush {z : Int} {v : Int32} (hd : decode M.2.1 pc = .ok (.bipush z, 2)) (hv : (Int8.ofInt z).toInt32 = v)
    (kk : Rn M (pc + 2) L (.int v :: st) N S k n out N' S') : Rn M pc L (st) N S k n out N' S' := by
  intro p l e s m args below meth c D tI tZ ad sd A H locs ls C Wk hL
  exact lv_bipush C.1 C.2.1 hd hv (kk C Wk hL)
theorem r_sipush {z : Int} {v : Int32} (hd : decode M.2.1 pc = .ok (.sipush z, 3)) (hv : (Int16.ofInt z).toInt32 = v)
    (kk : Rn M (pc + 3) L (.int v :: st) N S k n out N' S') : Rn M pc L (st) N S k n out N' S' := by
  intro p l e s m args below meth c D tI tZ ad sd A H locs ls C Wk hL
  exact lv_sipush C.1 C.2.1 hd hv (kk C Wk hL)
theorem r_lconst {z : Fin 2} {v : Int64} (hd : decode M.2.1 pc = .ok (.lconst z, 1)) (hv : Int64.ofNat (z : Nat) = v)
    (kk : Rn M (pc + 1) L (.long v :: st) N S k n out N' S') : Rn M pc L (st) N S k n out N' S' := by
  intro p l e s m args below meth c D tI tZ ad sd A H locs ls C Wk hL
  exact lv_lconst C.1 C.2.1 hd hv (kk C Wk hL)
theorem r_ldc {i : Nat} {v : Int32} (hd : decode M.2.1 pc = .ok (.ldc i, 2)) (hc : Cond.constant M.1.cls i v ∈ tb)
    (kk : Rn M (pc + 2) L (.int v :: st) N S k n out N' S') : Rn M pc L (st) N S k n out N' S' := by
  intro p l e s m args below meth c D tI tZ ad sd A H locs ls C Wk hL
  exact lv_ldc C.1 C.2.1 C.2.2.2.2.2.2.1 (C.2.2.2.2.2.2.2.1 _ hc) hd (kk C Wk hL)
theorem r_ldcw {i : Nat} {v : Int32} (hd : decode M.2.1 pc = .ok (.ldc_w i, 3)) (hc : Cond.constant M.1.cls i v ∈ tb)
    (kk : Rn M (pc + 3) L (.int v :: st) N S k n out N' S') : Rn M pc L (st) N S k n out N' S' := by
  intro p l e s m args below meth c D tI tZ ad sd A H locs ls C Wk hL
  exact lv_ldcw C.1 C.2.1 C.2.2.2.2.2.2.1 (C.2.2.2.2.2.2.2.1 _ hc) hd (kk C Wk hL)
theorem r_ldc2 {i : Nat} {v : Int64} (hd : decode M.2.1 pc = .ok (.ldc2_w i, 3)) (hc : Cond.constantLong M.1.cls i v ∈ tb)
    (kk : Rn M (pc + 3) L (.long v :: st) N S k n out N' S') : Rn M pc L (st) N S k n out N' S' := by
  intro p l e s m args below meth c D tI tZ ad sd A H locs ls C Wk hL
  exact lv_ldc2 C.1 C.2.1 C.2.2.2.2.2.2.1 (C.2.2.2.2.2.2.2.1 _ hc) hd (kk C Wk hL)
theorem r_iload_n {j : Fin 4} {x : Int32} (hd : decode M.2.1 pc = .ok (.iload_n j, 1)) (h : L[(j : Nat)]? = some (some (.int x)))
    (kk : Rn M (pc + 1) L (.int x :: st) N S k n out N' S') : Rn M pc L (st) N S k n out N' S' := by
  intro p l e s m args below meth c D tI tZ ad sd A H locs ls C Wk hL
  exact lv_iload_n C.1 C.2.1 hd rfl (hL.2.2 _ _ h) (kk C Wk hL)
theorem r_iload {j : Nat} {x : Int32} (hd : decode M.2.1 pc = .ok (.iload j, 2)) (h : L[j]? = some (some (.int x)))
    (kk : Rn M (pc + 2) L (.int x :: st) N S k n out N' S') : Rn M pc L (st) N S k n out N' S' := by
  intro p l e s m args below meth c D tI tZ ad sd A H locs ls C Wk hL
  exact lv_iload C.1 C.2.1 hd (hL.2.2 _ _ h) (kk C Wk hL)
theorem r_lload_n {j : Fin 4} {x : Int64} (hd : decode M.2.1 pc = .ok (.lload_n j, 1)) (h : L[(j : Nat)]? = some (some (.long x)))
    (kk : Rn M (pc + 1) L (.long x :: st) N S k n out N' S') : Rn M pc L (st) N S k n out N' S' := by
  intro p l e s m args below meth c D tI tZ ad sd A H locs ls C Wk hL
  exact lv_lload_n C.1 C.2.1 hd rfl (hL.2.2 _ _ h) (kk C Wk hL)
theorem r_lload {j : Nat} {x : Int64} (hd : decode M.2.1 pc = .ok (.lload j, 2)) (h : L[j]? = some (some (.long x)))
    (kk : Rn M (pc + 2) L (.long x :: st) N S k n out N' S') : Rn M pc L (st) N S k n out N' S' := by
  intro p l e s m args below meth c D tI tZ ad sd A H locs ls C Wk hL
  exact lv_lload C.1 C.2.1 hd (hL.2.2 _ _ h) (kk C Wk hL)
theorem r_aload_n {j : Fin 4} {x : Nat} (hd : decode M.2.1 pc = .ok (.aload_n j, 1)) (h : L[(j : Nat)]? = some (some (.ref x)))
    (kk : Rn M (pc + 1) L (.ref x :: st) N S k n out N' S') : Rn M pc L (st) N S k n out N' S' := by
  intro p l e s m args below meth c D tI tZ ad sd A H locs ls C Wk hL
  exact lv_aload_n C.1 C.2.1 hd rfl (hL.2.2 _ _ h) (kk C Wk hL)
theorem r_aload {j : Nat} {x : Nat} (hd : decode M.2.1 pc = .ok (.aload j, 2)) (h : L[j]? = some (some (.ref x)))
    (kk : Rn M (pc + 2) L (.ref x :: st) N S k n out N' S') : Rn M pc L (st) N S k n out N' S' := by
  intro p l e s m args below meth c D tI tZ ad sd A H locs ls C Wk hL
  exact lv_aload C.1 C.2.1 hd (hL.2.2 _ _ h) (kk C Wk hL)
theorem r_sload_n {j : Fin 4} {x : UInt32} (hd : decode M.2.1 pc = .ok (.aload_n j, 1)) (h : L[(j : Nat)]? = some (some (.float x)))
    (kk : Rn M (pc + 1) L (.float x :: st) N S k n out N' S') : Rn M pc L (st) N S k n out N' S' := by
  intro p l e s m args below meth c D tI tZ ad sd A H locs ls C Wk hL
  exact lv_aload_n C.1 C.2.1 hd rfl (hL.2.2 _ _ h) (kk C Wk hL)
theorem r_istore_n {j : Fin 4} {i : Nat} {x : Int32} {L' : List (Option Value)} (hd : decode M.2.1 pc = .ok (.istore_n j, 1)) (hi : (j : Nat) = i) (hn : i < M.2.2.1) (hL2 : l1 L i (.int x) = L')
    (kk : Rn M (pc + 1) L' st N S k n out N' S') : Rn M pc L (.int x :: st) N S k n out N' S' := by
  intro p l e s m args below meth c D tI tZ ad sd A H locs ls C Wk hL
  subst hL2
  exact lv_istore_n (lv' := _) C.1 C.2.1 hd hi (lok_prs hL) hn rfl (fun ls' h' => kk C Wk (lok_s1 (v := .int x) h'))
theorem r_istore {i : Nat} {x : Int32} {L' : List (Option Value)} (hd : decode M.2.1 pc = .ok (.istore i, 2)) (hn : i < M.2.2.1) (hL2 : l1 L i (.int x) = L')
    (kk : Rn M (pc + 2) L' st N S k n out N' S') : Rn M pc L (.int x :: st) N S k n out N' S' := by
  intro p l e s m args below meth c D tI tZ ad sd A H locs ls C Wk hL
  subst hL2
  exact lv_istore (lv' := _) C.1 C.2.1 hd (lok_prs hL) hn rfl (fun ls' h' => kk C Wk (lok_s1 (v := .int x) h'))
theorem r_lstore_n {j : Fin 4} {i : Nat} {x : Int64} {L' : List (Option Value)} (hd : decode M.2.1 pc = .ok (.lstore_n j, 1)) (hi : (j : Nat) = i) (hn : i + 1 < M.2.2.1) (hL2 : l2 L i (.long x) = L')
    (kk : Rn M (pc + 1) L' st N S k n out N' S') : Rn M pc L (.long x :: st) N S k n out N' S' := by
  intro p l e s m args below meth c D tI tZ ad sd A H locs ls C Wk hL
  subst hL2
  exact lv_lstore_n (lv' := _) C.1 C.2.1 hd hi (lok_prs hL) hn rfl (fun ls' h' => kk C Wk (lok_s2 (v := .long x) h'))
theorem r_lstore {i : Nat} {x : Int64} {L' : List (Option Value)} (hd : decode M.2.1 pc = .ok (.lstore i, 2)) (hn : i + 1 < M.2.2.1) (hL2 : l2 L i (.long x) = L')
    (kk : Rn M (pc + 2) L' st N S k n out N' S') : Rn M pc L (.long x :: st) N S k n out N' S' := by
  intro p l e s m args below meth c D tI tZ ad sd A H locs ls C Wk hL
  subst hL2
  exact lv_lstore (lv' := _) C.1 C.2.1 hd (lok_prs hL) hn rfl (fun ls' h' => kk C Wk (lok_s2 (v := .long x) h'))
theorem r_astore_n {j : Fin 4} {i : Nat} {x : Nat} {L' : List (Option Value)} (hd : decode M.2.1 pc = .ok (.astore_n j, 1)) (hi : (j : Nat) = i) (hn : i < M.2.2.1) (hL2 : l1 L i (.ref x) = L')
    (kk : Rn M (pc + 1) L' st N S k n out N' S') : Rn M pc L (.ref x :: st) N S k n out N' S' := by
  intro p l e s m args below meth c D tI tZ ad sd A H locs ls C Wk hL
  subst hL2
  exact lv_astore_n (lv' := _) C.1 C.2.1 hd hi (lok_prs hL) hn rfl (fun ls' h' => kk C Wk (lok_s1 (v := .ref x) h'))
theorem r_astore {i : Nat} {x : Nat} {L' : List (Option Value)} (hd : decode M.2.1 pc = .ok (.astore i, 2)) (hn : i < M.2.2.1) (hL2 : l1 L i (.ref x) = L')
    (kk : Rn M (pc + 2) L' st N S k n out N' S') : Rn M pc L (.ref x :: st) N S k n out N' S' := by
  intro p l e s m args below meth c D tI tZ ad sd A H locs ls C Wk hL
  subst hL2
  exact lv_astore (lv' := _) C.1 C.2.1 hd (lok_prs hL) hn rfl (fun ls' h' => kk C Wk (lok_s1 (v := .ref x) h'))
theorem r_iinc {i : Nat} {z : Int} {x : Int32} {L' : List (Option Value)} (hd : decode M.2.1 pc = .ok (.iinc i z, 3)) (h : L[i]? = some (some (.int x))) (hn : i < M.2.2.1) (hL2 : l1 L i (.int (x + Int32.ofInt z)) = L')
    (kk : Rn M (pc + 3) L' st N S k n out N' S') : Rn M pc L st N S k n out N' S' := by
  intro p l e s m args below meth c D tI tZ ad sd A H locs ls C Wk hL
  subst hL2
  obtain ⟨q, hq⟩ := List.getElem?_of_mem (prs_in (ad := ad) (sd := sd) h)
  exact lv_iinc (lv' := _) C.1 C.2.1 hd (lok_prs hL) hq rfl hn rfl (fun ls' h' => kk C Wk (lok_s1 (v := .int (x + Int32.ofInt z)) h'))
theorem r_iadd {x y : Int32} (hd : decode M.2.1 pc = .ok (.iadd, 1)) 
    (kk : Rn M (pc + 1) L (.int (x + y) :: st) N S k n out N' S') : Rn M pc L (.int y :: .int x :: st) N S k n out N' S' := by
  intro p l e s m args below meth c D tI tZ ad sd A H locs ls C Wk hL
  exact lv_iadd C.1 C.2.1 hd (kk C Wk hL)
theorem r_isub {x y : Int32} (hd : decode M.2.1 pc = .ok (.isub, 1)) 
    (kk : Rn M (pc + 1) L (.int (x - y) :: st) N S k n out N' S') : Rn M pc L (.int y :: .int x :: st) N S k n out N' S' := by
  intro p l e s m args below meth c D tI tZ ad sd A H locs ls C Wk hL
  exact lv_isub C.1 C.2.1 hd (kk C Wk hL)
theorem r_imul {x y : Int32} (hd : decode M.2.1 pc = .ok (.imul, 1)) 
    (kk : Rn M (pc + 1) L (.int (x * y) :: st) N S k n out N' S') : Rn M pc L (.int y :: .int x :: st) N S k n out N' S' := by
  intro p l e s m args below meth c D tI tZ ad sd A H locs ls C Wk hL
  exact lv_imul C.1 C.2.1 hd (kk C Wk hL)
theorem r_iand {x y : Int32} (hd : decode M.2.1 pc = .ok (.iand, 1)) 
    (kk : Rn M (pc + 1) L (.int (x &&& y) :: st) N S k n out N' S') : Rn M pc L (.int y :: .int x :: st) N S k n out N' S' := by
  intro p l e s m args below meth c D tI tZ ad sd A H locs ls C Wk hL
  exact lv_iand C.1 C.2.1 hd (kk C Wk hL)
theorem r_ior {x y : Int32} (hd : decode M.2.1 pc = .ok (.ior, 1)) 
    (kk : Rn M (pc + 1) L (.int (x ||| y) :: st) N S k n out N' S') : Rn M pc L (.int y :: .int x :: st) N S k n out N' S' := by
  intro p l e s m args below meth c D tI tZ ad sd A H locs ls C Wk hL
  exact lv_ior C.1 C.2.1 hd (kk C Wk hL)
theorem r_ixor {x y : Int32} (hd : decode M.2.1 pc = .ok (.ixor, 1)) 
    (kk : Rn M (pc + 1) L (.int (x ^^^ y) :: st) N S k n out N' S') : Rn M pc L (.int y :: .int x :: st) N S k n out N' S' := by
  intro p l e s m args below meth c D tI tZ ad sd A H locs ls C Wk hL
  exact lv_ixor C.1 C.2.1 hd (kk C Wk hL)
theorem r_ladd {x y : Int64} (hd : decode M.2.1 pc = .ok (.ladd, 1)) 
    (kk : Rn M (pc + 1) L (.long (x + y) :: st) N S k n out N' S') : Rn M pc L (.long y :: .long x :: st) N S k n out N' S' := by
  intro p l e s m args below meth c D tI tZ ad sd A H locs ls C Wk hL
  exact lv_ladd C.1 C.2.1 hd (kk C Wk hL)
theorem r_lsub {x y : Int64} (hd : decode M.2.1 pc = .ok (.lsub, 1)) 
    (kk : Rn M (pc + 1) L (.long (x - y) :: st) N S k n out N' S') : Rn M pc L (.long y :: .long x :: st) N S k n out N' S' := by
  intro p l e s m args below meth c D tI tZ ad sd A H locs ls C Wk hL
  exact lv_lsub C.1 C.2.1 hd (kk C Wk hL)
theorem r_lmul {x y : Int64} (hd : decode M.2.1 pc = .ok (.lmul, 1)) 
    (kk : Rn M (pc + 1) L (.long (x * y) :: st) N S k n out N' S') : Rn M pc L (.long y :: .long x :: st) N S k n out N' S' := by
  intro p l e s m args below meth c D tI tZ ad sd A H locs ls C Wk hL
  exact lv_lmul C.1 C.2.1 hd (kk C Wk hL)
theorem r_land {x y : Int64} (hd : decode M.2.1 pc = .ok (.land, 1)) 
    (kk : Rn M (pc + 1) L (.long (x &&& y) :: st) N S k n out N' S') : Rn M pc L (.long y :: .long x :: st) N S k n out N' S' := by
  intro p l e s m args below meth c D tI tZ ad sd A H locs ls C Wk hL
  exact lv_land C.1 C.2.1 hd (kk C Wk hL)
theorem r_lor {x y : Int64} (hd : decode M.2.1 pc = .ok (.lor, 1)) 
    (kk : Rn M (pc + 1) L (.long (x ||| y) :: st) N S k n out N' S') : Rn M pc L (.long y :: .long x :: st) N S k n out N' S' := by
  intro p l e s m args below meth c D tI tZ ad sd A H locs ls C Wk hL
  exact lv_lor C.1 C.2.1 hd (kk C Wk hL)
theorem r_ineg {x : Int32} (hd : decode M.2.1 pc = .ok (.ineg, 1)) 
    (kk : Rn M (pc + 1) L (.int (-x) :: st) N S k n out N' S') : Rn M pc L (.int x :: st) N S k n out N' S' := by
  intro p l e s m args below meth c D tI tZ ad sd A H locs ls C Wk hL
  exact lv_ineg C.1 C.2.1 hd (kk C Wk hL)
theorem r_idiv {x y : Int32} (hd : decode M.2.1 pc = .ok (.idiv, 1)) (hy : ¬ y = 0)
    (kk : Rn M (pc + 1) L (.int (x / y) :: st) N S k n out N' S') : Rn M pc L (.int y :: .int x :: st) N S k n out N' S' := by
  intro p l e s m args below meth c D tI tZ ad sd A H locs ls C Wk hL
  exact lv_idiv C.1 C.2.1 hd hy (kk C Wk hL)
theorem r_irem {x y : Int32} (hd : decode M.2.1 pc = .ok (.irem, 1)) (hy : ¬ y = 0)
    (kk : Rn M (pc + 1) L (.int (x - x / y * y) :: st) N S k n out N' S') : Rn M pc L (.int y :: .int x :: st) N S k n out N' S' := by
  intro p l e s m args below meth c D tI tZ ad sd A H locs ls C Wk hL
  exact lv_irem C.1 C.2.1 hd hy (kk C Wk hL)
theorem r_ldiv {x y : Int64} (hd : decode M.2.1 pc = .ok (.ldiv, 1)) (hy : ¬ y = 0)
    (kk : Rn M (pc + 1) L (.long (x / y) :: st) N S k n out N' S') : Rn M pc L (.long y :: .long x :: st) N S k n out N' S' := by
  intro p l e s m args below meth c D tI tZ ad sd A H locs ls C Wk hL
  exact lv_ldiv C.1 C.2.1 hd hy (kk C Wk hL)
theorem r_lrem {x y : Int64} (hd : decode M.2.1 pc = .ok (.lrem, 1)) (hy : ¬ y = 0)
    (kk : Rn M (pc + 1) L (.long (x - x / y * y) :: st) N S k n out N' S') : Rn M pc L (.long y :: .long x :: st) N S k n out N' S' := by
  intro p l e s m args below meth c D tI tZ ad sd A H locs ls C Wk hL
  exact lv_lrem C.1 C.2.1 hd hy (kk C Wk hL)
theorem r_ishl {x y : Int32} (hd : decode M.2.1 pc = .ok (.ishl, 1)) 
    (kk : Rn M (pc + 1) L (.int (x <<< (y &&& 31)) :: st) N S k n out N' S') : Rn M pc L (.int y :: .int x :: st) N S k n out N' S' := by
  intro p l e s m args below meth c D tI tZ ad sd A H locs ls C Wk hL
  exact lv_ishl C.1 C.2.1 hd (kk C Wk hL)
theorem r_ishr {x y : Int32} (hd : decode M.2.1 pc = .ok (.ishr, 1)) 
    (kk : Rn M (pc + 1) L (.int (x >>> (y &&& 31)) :: st) N S k n out N' S') : Rn M pc L (.int y :: .int x :: st) N S k n out N' S' := by
  intro p l e s m args below meth c D tI tZ ad sd A H locs ls C Wk hL
  exact lv_ishr C.1 C.2.1 hd (kk C Wk hL)
theorem r_iushr {x y : Int32} (hd : decode M.2.1 pc = .ok (.iushr, 1)) 
    (kk : Rn M (pc + 1) L (.int (x.toUInt32 >>> (y.toUInt32 &&& Int32.toUInt32 31)).toInt32 :: st) N S k n out N' S') : Rn M pc L (.int y :: .int x :: st) N S k n out N' S' := by
  intro p l e s m args below meth c D tI tZ ad sd A H locs ls C Wk hL
  exact lv_iushr C.1 C.2.1 hd rfl (kk C Wk hL)
theorem r_lushr {x : Int64} {y : Int32} (hd : decode M.2.1 pc = .ok (.lushr, 1)) 
    (kk : Rn M (pc + 1) L (.long (x.toUInt64 >>> (y.toInt64.toUInt64 &&& Int64.toUInt64 63)).toInt64 :: st) N S k n out N' S') : Rn M pc L (.int y :: .long x :: st) N S k n out N' S' := by
  intro p l e s m args below meth c D tI tZ ad sd A H locs ls C Wk hL
  exact lv_lushr C.1 C.2.1 hd rfl (kk C Wk hL)
theorem r_lshl {x : Int64} {y : Int32} (hd : decode M.2.1 pc = .ok (.lshl, 1)) 
    (kk : Rn M (pc + 1) L (.long (x <<< (y.toInt64 &&& 63)) :: st) N S k n out N' S') : Rn M pc L (.int y :: .long x :: st) N S k n out N' S' := by
  intro p l e s m args below meth c D tI tZ ad sd A H locs ls C Wk hL
  exact lv_lshl C.1 C.2.1 hd rfl (kk C Wk hL)
theorem r_lshr {x : Int64} {y : Int32} (hd : decode M.2.1 pc = .ok (.lshr, 1)) 
    (kk : Rn M (pc + 1) L (.long (x >>> (y.toInt64 &&& 63)) :: st) N S k n out N' S') : Rn M pc L (.int y :: .long x :: st) N S k n out N' S' := by
  intro p l e s m args below meth c D tI tZ ad sd A H locs ls C Wk hL
  exact lv_lshr C.1 C.2.1 hd rfl (kk C Wk hL)
theorem r_lcmp {x y : Int64} (hd : decode M.2.1 pc = .ok (.lcmp, 1)) 
    (kk : Rn M (pc + 1) L (.int (lg_cmp x y) :: st) N S k n out N' S') : Rn M pc L (.long y :: .long x :: st) N S k n out N' S' := by
  intro p l e s m args below meth c D tI tZ ad sd A H locs ls C Wk hL
  exact W.lcmp C.1 C.2.1 hd (kk C Wk hL)
theorem r_i2l {x : Int32} (hd : decode M.2.1 pc = .ok (.i2l, 1)) 
    (kk : Rn M (pc + 1) L (.long x.toInt64 :: st) N S k n out N' S') : Rn M pc L (.int x :: st) N S k n out N' S' := by
  intro p l e s m args below meth c D tI tZ ad sd A H locs ls C Wk hL
  exact lv_i2l C.1 C.2.1 hd rfl (kk C Wk hL)
theorem r_l2i {x : Int64} (hd : decode M.2.1 pc = .ok (.l2i, 1)) 
    (kk : Rn M (pc + 1) L (.int x.toInt32 :: st) N S k n out N' S') : Rn M pc L (.long x :: st) N S k n out N' S' := by
  intro p l e s m args below meth c D tI tZ ad sd A H locs ls C Wk hL
  exact lv_l2i C.1 C.2.1 hd rfl (kk C Wk hL)
theorem r_dup {v : Value} (hd : decode M.2.1 pc = .ok (.dup, 1)) (hv : v.category = 1)
    (kk : Rn M (pc + 1) L (v :: v :: st) N S k n out N' S') : Rn M pc L (v :: st) N S k n out N' S' := by
  intro p l e s m args below meth c D tI tZ ad sd A H locs ls C Wk hL
  exact lv_dup C.1 C.2.1 hd ((cv_cat v).trans hv) (kk C Wk hL)
theorem r_pop {v : Value} (hd : decode M.2.1 pc = .ok (.pop, 1)) (hv : v.category = 1)
    (kk : Rn M (pc + 1) L (st) N S k n out N' S') : Rn M pc L (v :: st) N S k n out N' S' := by
  intro p l e s m args below meth c D tI tZ ad sd A H locs ls C Wk hL
  exact lv_pop C.1 C.2.1 hd ((cv_cat v).trans hv) (kk C Wk hL)
theorem r_dup2 {v w : Value} (hd : decode M.2.1 pc = .ok (.dup2, 1)) (hv : v.category = 1) (hw : w.category = 1)
    (kk : Rn M (pc + 1) L (v :: w :: v :: w :: st) N S k n out N' S') : Rn M pc L (v :: w :: st) N S k n out N' S' := by
  intro p l e s m args below meth c D tI tZ ad sd A H locs ls C Wk hL
  exact lv_dup2_11 C.1 C.2.1 hd ((cv_cat v).trans hv) ((cv_cat w).trans hw) (kk C Wk hL)
theorem r_if_eq {x : Int32} {off : Int} {tgt : Nat} (hd : decode M.2.1 pc = .ok (.ifCond .eq off, 3)) (ht : (pc : Int) + off = (tgt : Int))
    (kt : x = 0 → Rn M tgt L st N S k n out N' S') (kf : ¬ x = 0 → Rn M (pc + 3) L st N S k n out N' S') : Rn M pc L (.int x :: st) N S k n out N' S' := by
  intro p l e s m args below meth c D tI tZ ad sd A H locs ls C Wk hL
  exact lv_if_eq C.1 C.2.1 hd ht (fun h => kt h C Wk hL) (fun h => kf h C Wk hL)
theorem r_icmp_eq {x y : Int32} {off : Int} {tgt : Nat} (hd : decode M.2.1 pc = .ok (.if_icmp .eq off, 3)) (ht : (pc : Int) + off = (tgt : Int))
    (kt : x = y → Rn M tgt L st N S k n out N' S') (kf : ¬ x = y → Rn M (pc + 3) L st N S k n out N' S') : Rn M pc L (.int y :: .int x :: st) N S k n out N' S' := by
  intro p l e s m args below meth c D tI tZ ad sd A H locs ls C Wk hL
  exact lv_icmp_eq C.1 C.2.1 hd ht (fun h => kt h C Wk hL) (fun h => kf h C Wk hL)
theorem r_if_ne {x : Int32} {off : Int} {tgt : Nat} (hd : decode M.2.1 pc = .ok (.ifCond .ne off, 3)) (ht : (pc : Int) + off = (tgt : Int))
    (kt : ¬ x = 0 → Rn M tgt L st N S k n out N' S') (kf : x = 0 → Rn M (pc + 3) L st N S k n out N' S') : Rn M pc L (.int x :: st) N S k n out N' S' := by
  intro p l e s m args below meth c D tI tZ ad sd A H locs ls C Wk hL
  exact lv_if_ne C.1 C.2.1 hd ht (fun h => kt h C Wk hL) (fun h => kf h C Wk hL)
theorem r_icmp_ne {x y : Int32} {off : Int} {tgt : Nat} (hd : decode M.2.1 pc = .ok (.if_icmp .ne off, 3)) (ht : (pc : Int) + off = (tgt : Int))
    (kt : ¬ x = y → Rn M tgt L st N S k n out N' S') (kf : x = y → Rn M (pc + 3) L st N S k n out N' S') : Rn M pc L (.int y :: .int x :: st) N S k n out N' S' := by
  intro p l e s m args below meth c D tI tZ ad sd A H locs ls C Wk hL
  exact lv_icmp_ne C.1 C.2.1 hd ht (fun h => kt h C Wk hL) (fun h => kf h C Wk hL)
theorem r_if_lt {x : Int32} {off : Int} {tgt : Nat} (hd : decode M.2.1 pc = .ok (.ifCond .lt off, 3)) (ht : (pc : Int) + off = (tgt : Int))
    (kt : x < 0 → Rn M tgt L st N S k n out N' S') (kf : ¬ x < 0 → Rn M (pc + 3) L st N S k n out N' S') : Rn M pc L (.int x :: st) N S k n out N' S' := by
  intro p l e s m args below meth c D tI tZ ad sd A H locs ls C Wk hL
  exact lv_if_lt C.1 C.2.1 hd ht (fun h => kt h C Wk hL) (fun h => kf h C Wk hL)
theorem r_icmp_lt {x y : Int32} {off : Int} {tgt : Nat} (hd : decode M.2.1 pc = .ok (.if_icmp .lt off, 3)) (ht : (pc : Int) + off = (tgt : Int))
    (kt : x < y → Rn M tgt L st N S k n out N' S') (kf : ¬ x < y → Rn M (pc + 3) L st N S k n out N' S') : Rn M pc L (.int y :: .int x :: st) N S k n out N' S' := by
  intro p l e s m args below meth c D tI tZ ad sd A H locs ls C Wk hL
  exact lv_icmp_lt C.1 C.2.1 hd ht (fun h => kt h C Wk hL) (fun h => kf h C Wk hL)
theorem r_if_ge {x : Int32} {off : Int} {tgt : Nat} (hd : decode M.2.1 pc = .ok (.ifCond .ge off, 3)) (ht : (pc : Int) + off = (tgt : Int))
    (kt : 0 ≤ x → Rn M tgt L st N S k n out N' S') (kf : ¬ 0 ≤ x → Rn M (pc + 3) L st N S k n out N' S') : Rn M pc L (.int x :: st) N S k n out N' S' := by
  intro p l e s m args below meth c D tI tZ ad sd A H locs ls C Wk hL
  exact lv_if_ge C.1 C.2.1 hd ht (fun h => kt h C Wk hL) (fun h => kf h C Wk hL)
theorem r_icmp_ge {x y : Int32} {off : Int} {tgt : Nat} (hd : decode M.2.1 pc = .ok (.if_icmp .ge off, 3)) (ht : (pc : Int) + off = (tgt : Int))
    (kt : y ≤ x → Rn M tgt L st N S k n out N' S') (kf : ¬ y ≤ x → Rn M (pc + 3) L st N S k n out N' S') : Rn M pc L (.int y :: .int x :: st) N S k n out N' S' := by
  intro p l e s m args below meth c D tI tZ ad sd A H locs ls C Wk hL
  exact lv_icmp_ge C.1 C.2.1 hd ht (fun h => kt h C Wk hL) (fun h => kf h C Wk hL)
theorem r_if_gt {x : Int32} {off : Int} {tgt : Nat} (hd : decode M.2.1 pc = .ok (.ifCond .gt off, 3)) (ht : (pc : Int) + off = (tgt : Int))
    (kt : 0 < x → Rn M tgt L st N S k n out N' S') (kf : ¬ 0 < x → Rn M (pc + 3) L st N S k n out N' S') : Rn M pc L (.int x :: st) N S k n out N' S' := by
  intro p l e s m args below meth c D tI tZ ad sd A H locs ls C Wk hL
  exact lv_if_gt C.1 C.2.1 hd ht (fun h => kt h C Wk hL) (fun h => kf h C Wk hL)
theorem r_icmp_gt {x y : Int32} {off : Int} {tgt : Nat} (hd : decode M.2.1 pc = .ok (.if_icmp .gt off, 3)) (ht : (pc : Int) + off = (tgt : Int))
    (kt : y < x → Rn M tgt L st N S k n out N' S') (kf : ¬ y < x → Rn M (pc + 3) L st N S k n out N' S') : Rn M pc L (.int y :: .int x :: st) N S k n out N' S' := by
  intro p l e s m args below meth c D tI tZ ad sd A H locs ls C Wk hL
  exact lv_icmp_gt C.1 C.2.1 hd ht (fun h => kt h C Wk hL) (fun h => kf h C Wk hL)
theorem r_if_le {x : Int32} {off : Int} {tgt : Nat} (hd : decode M.2.1 pc = .ok (.ifCond .le off, 3)) (ht : (pc : Int) + off = (tgt : Int))
    (kt : x ≤ 0 → Rn M tgt L st N S k n out N' S') (kf : ¬ x ≤ 0 → Rn M (pc + 3) L st N S k n out N' S') : Rn M pc L (.int x :: st) N S k n out N' S' := by
  intro p l e s m args below meth c D tI tZ ad sd A H locs ls C Wk hL
  exact lv_if_le C.1 C.2.1 hd ht (fun h => kt h C Wk hL) (fun h => kf h C Wk hL)
theorem r_icmp_le {x y : Int32} {off : Int} {tgt : Nat} (hd : decode M.2.1 pc = .ok (.if_icmp .le off, 3)) (ht : (pc : Int) + off = (tgt : Int))
    (kt : x ≤ y → Rn M tgt L st N S k n out N' S') (kf : ¬ x ≤ y → Rn M (pc + 3) L st N S k n out N' S') : Rn M pc L (.int y :: .int x :: st) N S k n out N' S' := by
  intro p l e s m args below meth c D tI tZ ad sd A H locs ls C Wk hL
  exact lv_icmp_le C.1 C.2.1 hd ht (fun h => kt h C Wk hL) (fun h => kf h C Wk hL)
theorem r_goto {off : Int} {tgt : Nat} (hd : decode M.2.1 pc = .ok (.goto off, 3)) (ht : (pc : Int) + off = (tgt : Int))
    (kk : Rn M tgt L st N S k n out N' S') : Rn M pc L st N S k n out N' S' := by
  intro p l e s m args below meth c D tI tZ ad sd A H locs ls C Wk hL
  exact lv_goto C.1 C.2.1 hd ht (kk C Wk hL)
theorem r_tsOut {dflt lo hi : Int} {offs : Array Int} {len : Nat} {x : Int32} {tgt : Nat} (hd : decode M.2.1 pc = .ok (.tableswitch dflt lo hi offs, len)) (h : x.toInt < lo ∨ hi < x.toInt) (ht : (pc : Int) + dflt = (tgt : Int))
    (kk : Rn M tgt L st N S k n out N' S') : Rn M pc L (.int x :: st) N S k n out N' S' := by
  intro p l e s m args below meth c D tI tZ ad sd A H locs ls C Wk hL
  exact lv_tableOut C.1 C.2.1 hd h ht (kk C Wk hL)
theorem r_tsIn {dflt lo hi : Int} {offs : Array Int} {len : Nat} {x : Int32} {off : Int} {tgt : Nat} (hd : decode M.2.1 pc = .ok (.tableswitch dflt lo hi offs, len)) (h1 : ¬ x.toInt < lo) (h2 : ¬ hi < x.toInt) (ho : offs[(x.toInt - lo).toNat]? = some off) (ht : (pc : Int) + off = (tgt : Int))
    (kk : Rn M tgt L st N S k n out N' S') : Rn M pc L (.int x :: st) N S k n out N' S' := by
  intro p l e s m args below meth c D tI tZ ad sd A H locs ls C Wk hL
  exact lv_tableIn C.1 C.2.1 hd h1 h2 ho ht (kk C Wk hL)
end ROWS
/-! fields -/
def FSite (own : String) (idx ci fk : Nat) (fin dec : Bool) (ty : FieldType) : Prop :=
  ∃ (C : String) (T : u_T) (Nf : Nat) (ty0 : Nat → FieldType), vwCl[ci]? = some (C, T, Nf) ∧ (∀ w ∈ u_ws C T Nf, w ∈ tb) ∧ fk < Nf ∧ Cond.fieldLink own idx (T fk).1 (T fk).2.1 (T fk).2.2.1 ∈ tb ∧ (T fk).2.2.2 = fin ∧ parseFieldDescriptor (T fk).2.2.1 = some ty ∧ (∀ k, k < Nf → parseFieldDescriptor (T k).2.2.1 = some (ty0 k)) ∧ (∀ a, a < Nf → ∀ b, b < Nf → a ≠ b → (T a).2.1 ≠ (T b).2.1) ∧ (dec = true → (T fk).1 = own)
def vfit : FieldType → Value → Bool
  | .int, .int _ => true
  | .long, .long _ => true
  | .boolean, .int x => x == 0 || x == 1
  | .object _, .ref _ => true
  | .array _, .ref _ => true
  | _, _ => false
theorem vfit_cv {ad sd : Nat → Nat} {ty : FieldType} {v : Value} (h : vfit ty v = true) : narrow ty (cv ad sd v) = cv ad sd v ∧ fits ty (cv ad sd v) = true := by
  cases ty <;> cases v <;> first | exact ⟨rfl, rfl⟩ | (exfalso; exact absurd h (by intro q; cases q)) | skip
  rename_i x
  simp only [vfit, Bool.or_eq_true, beq_iff_eq] at h
  rcases h with rfl | rfl <;> exact ⟨rfl, rfl⟩
section ROWF
variable {M : MI} {N k n N' : Nat} {S S' : St} {out : Option Value} {pc : Nat} {L : List (Option Value)} {st : List Value}
theorem r_getf {idx ci fk a : Nat} {fin dec : Bool} {ty : FieldType} {fs : List Value} {v : Value} (hd : decode M.2.1 pc = .ok (.getfield idx, 3)) (F : FSite M.1.cls idx ci fk fin dec ty) (hS : S a = some (.inr (ci, fs))) (hv : fs[fk]? = some v)
    (kk : Rn M (pc + 3) L (v :: st) N S k n out N' S') : Rn M pc L (.ref a :: st) N S k n out N' S' := by
  intro p l e s m args below meth c D tI tZ ad sd A H locs ls C Wk hL
  obtain ⟨CC, T, Nf, ty0, hc, hin, hk, hlk, -⟩ := F
  obtain ⟨hx, hb, hml, hr, hlo, hnm, hown, hts, hK, hA, hX⟩ := id C
  have he := aw_at (tI := tI) (tZ := tZ) (ad := ad) (sd := sd) (Wk.2.2.2 a _ hS) hS
  exact va_get hx hb hts hin hown hK Wk.1 a he hc fk hk (hts _ hlk) (fun _ h => h) (v := cv ad sd v) (by rw [List.getElem?_map, hv]; rfl) hd (kk C Wk hL)
theorem r_putf {idx ci fk a : Nat} {dec : Bool} {ty : FieldType} {fs : List Value} {v : Value} (hd : decode M.2.1 pc = .ok (.putfield idx, 3)) (F : FSite M.1.cls idx ci fk false dec ty) (hS : S a = some (.inr (ci, fs))) (hl : fk < fs.length) (hf : vfit ty v = true)
    (kk : Rn M (pc + 3) L st N (su S a (.inr (ci, fs.set fk v))) k n out N' S') : Rn M pc L (v :: .ref a :: st) N S k n out N' S' := by
  intro p l e s m args below meth c D tI tZ ad sd A H locs ls C Wk hL
  obtain ⟨CC, T, Nf, ty0, hc, hin, hk, hlk, hfin, hpd, hty, hnmm, -⟩ := F
  obtain ⟨hx, hb, hml, hr, hlo, hnm, hown, hts, hK, hA, hX⟩ := id C
  have hi := Wk.2.2.2 a _ hS
  have he := aw_at (tI := tI) (tZ := tZ) (ad := ad) (sd := sd) hi hS
  refine va_put hx hb hts hin ty0 hty hnmm hown hK Wk.1 Wk.2.1 Wk.2.2.1 a he hc fk hk (hts _ hlk) (fun _ h => h) hfin hpd (vfit_cv hf).1 (vfit_cv hf).2 (by rw [List.length_map]; exact hl) hd (fun H1 locs1 hP1 hD1 hS1 => ?_)
  rw [← List.map_set] at hP1 hD1
  have e : (aw tI tZ ad sd N S).set a (ad a, .inr (ci, List.map (cv ad sd) (fs.set fk v))) = aw tI tZ ad sd N (su S a (.inr (ci, fs.set fk v))) := aw_set (o := .inr (ci, fs.set fk v))
  rw [e] at hP1 hD1
  exact kk C ⟨hP1, hD1, hS1, sok_su Wk.2.2.2 hi⟩ hL
theorem r_putF {idx ci fk a : Nat} {ty : FieldType} {fs : List Value} {v : Value} (hd : decode M.2.1 pc = .ok (.putfield idx, 3)) (F : FSite M.1.cls idx ci fk true true ty) (hin2 : M.1.name = "<init>") (hS : S a = some (.inr (ci, fs))) (hl : fk < fs.length) (hf : vfit ty v = true)
    (kk : Rn M (pc + 3) L st N (su S a (.inr (ci, fs.set fk v))) k n out N' S') : Rn M pc L (v :: .ref a :: st) N S k n out N' S' := by
  intro p l e s m args below meth c D tI tZ ad sd A H locs ls C Wk hL
  obtain ⟨CC, T, Nf, ty0, hc, hin, hk, hlk, hfin, hpd, hty, hnmm, hdec⟩ := F
  obtain ⟨hx, hb, hml, hr, hlo, hnm, hown, hts, hK, hA, hX⟩ := id C
  have hi := Wk.2.2.2 a _ hS
  have he := aw_at (tI := tI) (tZ := tZ) (ad := ad) (sd := sd) hi hS
  refine va_putF hx hb hts hin ty0 hty hnmm hown hK Wk.1 Wk.2.1 Wk.2.2.1 a he hc fk hk (hts _ hlk) (fun _ h => h) hfin (hnm.trans hin2) (hdec rfl) hpd (vfit_cv hf).1 (vfit_cv hf).2 (by rw [List.length_map]; exact hl) hd (fun H1 locs1 hP1 hD1 hS1 => ?_)
  rw [← List.map_set] at hP1 hD1
  have e : (aw tI tZ ad sd N S).set a (ad a, .inr (ci, List.map (cv ad sd) (fs.set fk v))) = aw tI tZ ad sd N (su S a (.inr (ci, fs.set fk v))) := aw_set (o := .inr (ci, fs.set fk v))
  rw [e] at hP1 hD1
  exact kk C ⟨hP1, hD1, hS1, sok_su Wk.2.2.2 hi⟩ hL
/-! arrays -/
theorem r_iald {a len : Nat} {f : Nat → Int32} {i : Int32} (hd : decode M.2.1 pc = .ok (.iaload, 1)) (hS : S a = some (.inl (false, len, f))) (hi : vp_in i len)
    (kk : Rn M (pc + 1) L (.int (f i.toNatClampNeg) :: st) N S k n out N' S') : Rn M pc L (.int i :: .ref a :: st) N S k n out N' S' := by
  intro p l e s m args below meth c D tI tZ ad sd A H locs ls C Wk hL
  have he : (aw tI tZ ad sd N S)[a]? = some (ad a, .inl (tI, len, .inl f)) := aw_at (Wk.2.2.2 a _ hS) hS
  exact va_iald C.1 C.2.1 C.2.2.2.2.2.2.2.2.1 Wk.1 a 0 he rfl hi hd (kk C Wk hL)
theorem r_zald {a len : Nat} {f : Nat → Int32} {i : Int32} (hd : decode M.2.1 pc = .ok (.baload, 1)) (hS : S a = some (.inl (true, len, f))) (hi : vp_in i len)
    (kk : Rn M (pc + 1) L (.int (f i.toNatClampNeg) :: st) N S k n out N' S') : Rn M pc L (.int i :: .ref a :: st) N S k n out N' S' := by
  intro p l e s m args below meth c D tI tZ ad sd A H locs ls C Wk hL
  have he : (aw tI tZ ad sd N S)[a]? = some (ad a, .inl (tZ, len, .inl f)) := aw_at (Wk.2.2.2 a _ hS) hS
  exact va_zald C.1 C.2.1 C.2.2.2.2.2.2.2.2.1 Wk.1 a 1 he rfl hi hd (kk C Wk hL)
theorem r_iast {a len : Nat} {f : Nat → Int32} {i x : Int32} (hd : decode M.2.1 pc = .ok (.iastore, 1)) (hS : S a = some (.inl (false, len, f))) (hi : vp_in i len)
    (kk : Rn M (pc + 1) L st N (su S a (.inl (false, len, upd f i.toNatClampNeg x))) k n out N' S') : Rn M pc L (.int x :: .int i :: .ref a :: st) N S k n out N' S' := by
  intro p l e s m args below meth c D tI tZ ad sd A H locs ls C Wk hL
  have hlt := Wk.2.2.2 a _ hS
  have he : (aw tI tZ ad sd N S)[a]? = some (ad a, .inl (tI, len, .inl f)) := aw_at hlt hS
  refine va_iast C.1 C.2.1 C.2.2.2.2.2.2.2.2.1 Wk.1 Wk.2.1 Wk.2.2.1 a 0 he rfl hi hd (fun H1 locs1 hP1 hD1 hS1 => ?_)
  have e : (aw tI tZ ad sd N S).set a (ad a, .inl (tI, len, .inl (upd f i.toNatClampNeg x))) = aw tI tZ ad sd N (su S a (.inl (false, len, upd f i.toNatClampNeg x))) := aw_set (o := .inl (false, len, upd f i.toNatClampNeg x))
  rw [e] at hP1 hD1
  exact kk C ⟨hP1, hD1, hS1, sok_su Wk.2.2.2 hlt⟩ hL
theorem r_zast {a len : Nat} {f : Nat → Int32} {i x : Int32} (hd : decode M.2.1 pc = .ok (.bastore, 1)) (hS : S a = some (.inl (true, len, f))) (hi : vp_in i len) (hx : x = 0 ∨ x = 1)
    (kk : Rn M (pc + 1) L st N (su S a (.inl (true, len, upd f i.toNatClampNeg x))) k n out N' S') : Rn M pc L (.int x :: .int i :: .ref a :: st) N S k n out N' S' := by
  intro p l e s m args below meth c D tI tZ ad sd A H locs ls C Wk hL
  have hlt := Wk.2.2.2 a _ hS
  have he : (aw tI tZ ad sd N S)[a]? = some (ad a, .inl (tZ, len, .inl f)) := aw_at hlt hS
  have hxn : vp_nar .boolean x = x := by rcases hx with rfl | rfl <;> rfl
  refine va_zast C.1 C.2.1 C.2.2.2.2.2.2.2.2.1 Wk.1 Wk.2.1 Wk.2.2.1 a 1 he rfl hi hd (fun H1 locs1 hP1 hD1 hS1 => ?_)
  rw [hxn] at hP1 hD1
  have e : (aw tI tZ ad sd N S).set a (ad a, .inl (tZ, len, .inl (upd f i.toNatClampNeg x))) = aw tI tZ ad sd N (su S a (.inl (true, len, upd f i.toNatClampNeg x))) := aw_set (o := .inl (true, len, upd f i.toNatClampNeg x))
  rw [e] at hP1 hD1
  exact kk C ⟨hP1, hD1, hS1, sok_su Wk.2.2.2 hlt⟩ hL
/-! a copied stretch -/
def CPSite (own : String) (idx : Nat) : Prop := Cond.methodLink own idx arraycopyName ∈ tb ∧ Cond.native arraycopyName ∈ tb ∧ Cond.static arraycopyName ∈ tb ∧ Cond.initialized "java/lang/System" ∈ tb
theorem r_copy {idx a0 a1 n0 n1 : Nat} {b : Bool} {f g : Nat → Int32} {sp dp ct : Int32} (hd : decode M.2.1 pc = .ok (.invokestatic idx, 3)) (hs : CPSite M.1.cls idx) (hS0 : S a0 = some (.inl (b, n0, f))) (hS1 : S a1 = some (.inl (b, n1, g)))
    (h1 : ¬ sp < 0) (h2 : ¬ dp < 0) (h3 : ¬ ct < 0) (h4 : sp.toNatClampNeg + ct.toNatClampNeg ≤ n0) (h5 : dp.toNatClampNeg + ct.toNatClampNeg ≤ n1) (hfit : b = true → ∀ j, j < n0 → f j = 0 ∨ f j = 1)
    (hR : 1 ≤ M.2.2.2.2.frames ∧ 32 ≤ M.2.2.2.2.locals) (h8 : (st.map fun v => v.category).sum ≤ 8)
    (kk : Rn M (pc + 3) L st N (su S a1 (.inl (b, n1, va_cpy f g sp.toNatClampNeg dp.toNatClampNeg ct.toNatClampNeg))) k n out N' S') : Rn M pc L (.int ct :: .int dp :: .ref a1 :: .int sp :: .ref a0 :: st) N S k n out N' S' := by
  intro p l e s m args below meth c D tI tZ ad sd A H locs ls C Wk hL
  obtain ⟨hx, hb, hml, hr, hlo, hnm, hown, hts, hK, hA, hX⟩ := id C
  have hlt := Wk.2.2.2 a1 _ hS1
  have he0 := aw_at (tI := tI) (tZ := tZ) (ad := ad) (sd := sd) (Wk.2.2.2 a0 _ hS0) hS0
  have he1 := aw_at (tI := tI) (tZ := tZ) (ad := ad) (sd := sd) hlt hS1
  have hz : (tyl tI tZ)[if b = true then 1 else 0]? = some ((if b = true then tZ else tI), (if b = true then FieldType.boolean else FieldType.int)) := by cases b <;> rfl
  refine va_copyi hx hb (by rw [hml]; exact hL.1.symm) hown (hts _ hs.1) (hts _ hs.2.1) (hts _ hs.2.2.1) (hts _ hs.2.2.2) hK Wk.1 Wk.2.1 Wk.2.2.1 a0 a1 _ _ (ty := if b = true then FieldType.boolean else FieldType.int) he0 he1 hz hz (by cases b <;> rfl) h1 h2 h3 h4 h5 (fun i hi => ?_) hR.1 ?_ hd (fun H1 locs1 hP1 hD1 hS1 => ?_)
  · cases b with
    | false => rfl
    | true =>
      show (f _ == 0 || f _ == 1) = true
      rcases hfit rfl (sp.toNatClampNeg + i) (by omega) with h | h <;> rw [h] <;> rfl
  · rw [cv_cats]
    have : nativeFrameWords "java/lang/System" "arraycopy" 5 + 11 ≤ 24 := by decide +kernel
    omega
  · have e : (aw tI tZ ad sd N S).set a1 (ad a1, .inl ((if b = true then tZ else tI), n1, .inl (va_cpy f g sp.toNatClampNeg dp.toNatClampNeg ct.toNatClampNeg))) = aw tI tZ ad sd N (su S a1 (.inl (b, n1, va_cpy f g sp.toNatClampNeg dp.toNatClampNeg ct.toNatClampNeg))) := aw_set (o := .inl (b, n1, _))
    rw [e] at hP1 hD1
    exact kk C ⟨hP1, hD1, hS1, sok_su Wk.2.2.2 hlt⟩ hL
/-! ends -/
theorem Qr_end {D : va_G} {tI tZ : ClassId} {ad sd : Nat → Nat} {A : Nat → Prop} {s t : State} {H : Heap} {locs : List Loc} {as : Array Value} {oc : Outcome} (Wk : Wd D tI tZ ad sd A N S s H locs) (ht : t.heap = H) (ho : oc = .returned (out.map (cv ad sd))) : Qr D tI tZ ad sd A N out N S as s oc t :=
  ⟨ad, Nat.le_refl _, fun _ _ => rfl, fun _ => rfl, ho, by rw [ht]; exact Wk.1, Wk.2.1, Wk.2.2.1.F ht, Wk.2.2.2⟩
theorem r_ret (hd : decode M.2.1 pc = .ok (.return_, 1)) (hr0 : M.2.2.2.1 = none) (hk : k ≤ M.2.2.2.2.cells) (hn : n ≤ M.2.2.2.2.slots) : Rn M pc L [] N S k n none N S := by
  intro p l e s m args below meth c D tI tZ ad sd A H locs ls C Wk hL
  refine W.widen hk hn ?_
  exact W.vret C.1 C.2.1 (C.2.2.2.1.trans hr0) (fun t ht hW => Qr_end Wk ht rfl) Wk.2.2.1.2.2 hd C.2.2.2.2.1
theorem r_iret {x : Int32} {ty : FieldType} (hd : decode M.2.1 pc = .ok (.ireturn, 1)) (hr0 : M.2.2.2.1 = some ty) (hx : narrow ty (.int x) = .int x) (hk : k ≤ M.2.2.2.2.cells) (hn : n ≤ M.2.2.2.2.slots) : Rn M pc L [.int x] N S k n (some (.int x)) N S := by
  intro p l e s m args below meth c D tI tZ ad sd A H locs ls C Wk hL
  refine W.widen hk hn ?_
  exact W.zret C.1 C.2.1 (C.2.2.2.1.trans hr0) hx (fun t ht hW => Qr_end Wk ht rfl) Wk.2.2.1.2.2 hd C.2.2.2.2.1
theorem r_lret {x : Int64} (hd : decode M.2.1 pc = .ok (.lreturn, 1)) (hr0 : M.2.2.2.1 = some .long) (hk : k ≤ M.2.2.2.2.cells) (hn : n ≤ M.2.2.2.2.slots) : Rn M pc L [.long x] N S k n (some (.long x)) N S := by
  intro p l e s m args below meth c D tI tZ ad sd A H locs ls C Wk hL
  refine W.widen hk hn ?_
  exact W.lret C.1 C.2.1 (C.2.2.2.1.trans hr0) (fun t ht hW => Qr_end Wk ht rfl) Wk.2.2.1.2.2 hd C.2.2.2.2.1
theorem r_aret {a : Nat} {cn : String} (hd : decode M.2.1 pc = .ok (.areturn, 1)) (hr0 : M.2.2.2.1 = some (.object cn)) (hk : k ≤ M.2.2.2.2.cells) (hn : n ≤ M.2.2.2.2.slots) : Rn M pc L [.ref a] N S k n (some (.ref a)) N S := by
  intro p l e s m args below meth c D tI tZ ad sd A H locs ls C Wk hL
  refine W.widen hk hn ?_
  exact W.aret C.1 C.2.1 (C.2.2.2.1.trans hr0) (Or.inl ⟨_, rfl⟩) (Or.inr ⟨_, rfl⟩) (fun t ht hW => Qr_end Wk ht rfl) Wk.2.2.1.2.2 hd C.2.2.2.2.1
end ROWF
/-! what is made -/
def NSite (own : String) (idx ci nf : Nat) (fs : List Value) : Prop :=
  ∃ (C : String) (T : u_T) (ty : Nat → FieldType), vwCl[ci]? = some (C, T, nf) ∧ (∀ w ∈ u_ws C T nf, w ∈ tb) ∧ (∀ k, k < nf → parseFieldDescriptor (T k).2.2.1 = some (ty k)) ∧ Cond.classLink own idx C ∈ tb ∧ Cond.instantiable C nf ∈ tb ∧ Cond.initialized C ∈ tb ∧ (∀ j, j < nf → defaultValue (ty j) = vp_V fs j) ∧ ∀ v ∈ fs, v = .int 0 ∨ v = .long 0 ∨ v = .null
section ROWN
variable {M : MI} {N k n N' : Nat} {S S' : St} {out : Option Value} {pc : Nat} {L : List (Option Value)} {st : List Value}
theorem Wd_new {D : va_G} {tI tZ : ClassId} {ad sd : Nat → Nat} {A : Nat → Prop} {s : State} {H1 : Heap} {locs : List Loc} {q : Nat} {o : Ob} (hok : sok N S) (hr : srk N S)
    (hP : va_P D vwCl (aw tI tZ ad sd N S ++ [(q, co tI tZ (fun i => if i = N then q else ad i) sd o)]) H1) (hD : va_D A (aw tI tZ ad sd N S ++ [(q, co tI tZ (fun i => if i = N then q else ad i) sd o)])) (hS : va_S A s.heap H1 locs) :
    Wd D tI tZ (fun i => if i = N then q else ad i) sd A (N + 1) (su S N o) s H1 locs := by
  have e := aw_push (tI := tI) (tZ := tZ) (ad := ad) (ad' := fun i => if i = N then q else ad i) (sd := sd) (N := N) (S := S) (o := o) (fun i hi => if_neg (by omega)) hr
  rw [show (if N = N then q else ad N) = q from if_pos rfl] at e
  rw [e] at hP hD
  refine ⟨hP, hD, hS, fun i o' hi => ?_⟩
  by_cases e2 : i = N
  · omega
  · rw [su_ne e2] at hi
    have := hok i o' hi
    omega
theorem Qr_up {D : va_G} {tI tZ : ClassId} {ad ad' sd : Nat → Nat} {A : Nat → Prop} {N1 : Nat} {as : Array Value} {s : State} {oc : Outcome} {t : State} (h1 : N ≤ N1) (h2 : ∀ i, i < N → ad' i = ad i) (h3 : N1 = N → ad' = ad) (h : Qr D tI tZ ad' sd A N1 out N' S' as s oc t) : Qr D tI tZ ad sd A N out N' S' as s oc t := by
  obtain ⟨ad2, g1, g2, g3, g4⟩ := h
  refine ⟨ad2, Nat.le_trans h1 g1, fun i hi => (g2 i (by omega)).trans (h2 i hi), fun e => ?_, g4⟩
  have e1 : N1 = N := by omega
  exact (g3 (by omega)).trans (h3 e1)
theorem MQ_up {below : List Frame} {Q Q' : Array Value → State → Outcome → State → Prop} {a : Array Value} {s : State} {mc ms : Nat} {free : Addr → Prop} (h : ∀ o t, Q a s o t → Q' a s o t) : ∀ t, MQ below Q a s mc ms free t → MQ below Q' a s mc ms free t := by
  intro t ⟨o, h1, h2, h3, h4⟩
  exact ⟨o, h1, h2, h _ _ h3, h4⟩
theorem cv_lit {ad sd : Nat → Nat} {v : Value} (h : v = .int 0 ∨ v = .long 0 ∨ v = .null) : cv ad sd v = v := by
  rcases h with rfl | rfl | rfl <;> rfl
theorem cv_lits {ad sd : Nat → Nat} {fs : List Value} (h : ∀ v ∈ fs, v = .int 0 ∨ v = .long 0 ∨ v = .null) : fs.map (cv ad sd) = fs := by
  have : fs.map (cv ad sd) = fs.map id := List.map_congr_left (fun v hv => cv_lit (h v hv))
  rw [this, List.map_id]
theorem r_new {idx ci nf : Nat} {fs : List Value} (hd : decode M.2.1 pc = .ok (.new idx, 3)) (hs : NSite M.1.cls idx ci nf fs) (hr : srk N S) (hL9 : ∀ v, some v ∈ L → vrk N v) (hs9 : ∀ v ∈ st, vrk N v) (hk : k + 1 ≤ M.2.2.2.2.cells) (hn : n + nf ≤ M.2.2.2.2.slots)
    (kk : Rn M (pc + 3) L (.ref N :: st) (N + 1) (su S N (.inr (ci, fs))) (k + 1) (n + nf) out N' S') : Rn M pc L st N S k n out N' S' := by
  intro p l e s m args below meth c D tI tZ ad sd A H locs ls C Wk hL
  obtain ⟨CC, T, ty, hc, hin, hty, w1, w2, w3, hdef, hlit⟩ := hs
  obtain ⟨hx, hb, hml, hr0, hlo, hnm, hown, hts, hK, hA, hX⟩ := id C
  refine va_new hx hb hts hin ty hty hown (hts _ w1) (hts _ w2) (hts _ w3) hK Wk.1 Wk.2.1 Wk.2.2.1 hA hc (fs := fs) hdef hk hn hd (fun q H1 hP1 hD1 hS1 => ?_)
  have ag : ∀ i, i < N → (fun i => if i = N then q else ad i) i = ad i := fun i hi => if_neg (by omega)
  have e7 : (q, (Sum.inr (ci, fs) : va_E)) = (q, co tI tZ (fun i => if i = N then q else ad i) sd (.inr (ci, fs))) := by
    show _ = (q, (Sum.inr (ci, fs.map _) : va_E))
    rw [cv_lits hlit]
  rw [e7] at hP1 hD1
  have W9 : W p l e M.2.2.2.2 s m args below meth c H1 locs (k + 1) (n + nf) (MQ below (Qr D tI tZ (fun i => if i = N then q else ad i) sd A (N + 1) out N' S') args s M.2.2.2.2.cells M.2.2.2.2.slots A) (F0 m (pc + 3) ls ((Value.ref N :: st).map (cv (fun i => if i = N then q else ad i) sd))) := kk C (Wd_new Wk.2.2.2 hr hP1 hD1 hS1) (lok_agree hL ag hL9)
  refine W.mono (MQ_up (fun o t h => Qr_up (Nat.le_succ N) ag (fun e => absurd e (by omega)) h)) ?_
  refine W.eq (g2 := _) ?_ W9
  show F0 m (pc + 3) ls (Value.ref q :: st.map (cv ad sd)) = F0 m (pc + 3) ls (Value.ref (if N = N then q else ad N) :: st.map _)
  rw [if_pos rfl, List.map_congr_left (fun v hv => cv_agree ag (hs9 v hv))]
theorem r_newa {atype : ArrayType} {b : Bool} {x : Int32} {len : Nat} (hd : decode M.2.1 pc = .ok (.newarray atype, 2)) (hb9 : newarray.typeOf atype = if b = true then .boolean else .int) (hw : Cond.arrayClass (newarray.typeOf atype) ∈ tb) (hx0 : ¬ x < 0) (hx1 : x.toNatClampNeg = len) (hx2 : len ≤ 100000)
    (hr : srk N S) (hL9 : ∀ v, some v ∈ L → vrk N v) (hs9 : ∀ v ∈ st, vrk N v) (hk : k + 1 ≤ M.2.2.2.2.cells) (hn : n + len ≤ M.2.2.2.2.slots)
    (kk : Rn M (pc + 2) L (.ref N :: st) (N + 1) (su S N (.inl (b, len, fun _ => 0))) (k + 1) (n + len) out N' S') : Rn M pc L (.int x :: st) N S k n out N' S' := by
  intro p l e s m args below meth c D tI tZ ad sd A H locs ls C Wk hL
  obtain ⟨hx, hb, hml, hr0, hlo, hnm, hown, hts, hK, hA, hX⟩ := id C
  refine va_newa hx hb (hts _ hw) hb9 hK Wk.1 Wk.2.1 Wk.2.2.1 hA (a0 := (len, .inl (fun _ => 0))) (fun cA => by cases b <;> rfl) hx0 hx1 (by cases b with
    | false => (show len * 4 ≤ 536870912; omega)
    | true => (show len * 1 ≤ 536870912; omega)) hk hn hd (fun q cA H1 hK1 hP1 hD1 hS1 => ?_)
  have ag : ∀ i, i < N → (fun i => if i = N then q else ad i) i = ad i := fun i hi => if_neg (by omega)
  have hcA : cA = if b = true then tZ else tI := by
    have h2 := (hK1.2 2 (cA, if b = true then .boolean else .int) rfl).2
    cases b with
    | false =>
      have h0 := (hK.2 0 (tI, .int) rfl).2
      exact Option.some.inj (h2.symm.trans h0)
    | true =>
      have h0 := (hK.2 1 (tZ, .boolean) rfl).2
      exact Option.some.inj (h2.symm.trans h0)
  subst hcA
  have W9 : W p l e M.2.2.2.2 s m args below meth c H1 locs (k + 1) (n + len) (MQ below (Qr D tI tZ (fun i => if i = N then q else ad i) sd A (N + 1) out N' S') args s M.2.2.2.2.cells M.2.2.2.2.slots A) (F0 m (pc + 2) ls ((Value.ref N :: st).map (cv (fun i => if i = N then q else ad i) sd))) := kk C (Wd_new (o := .inl (b, len, fun _ => 0)) Wk.2.2.2 hr hP1 hD1 hS1) (lok_agree hL ag hL9)
  refine W.mono (MQ_up (fun o t h => Qr_up (Nat.le_succ N) ag (fun e => absurd e (by omega)) h)) ?_
  refine W.eq (g2 := _) ?_ W9
  show F0 m (pc + 2) ls (Value.ref q :: st.map (cv ad sd)) = F0 m (pc + 2) ls (Value.ref (if N = N then q else ad N) :: st.map _)
  rw [if_pos rfl, List.map_congr_left (fun v hv => cv_agree ag (hs9 v hv))]
/-! Object's constructor -/
def OSite (own : String) (idx : Nat) : Prop := Cond.methodLink own idx Lib.objectInit ∈ tb ∧ Cond.instanceMethod Lib.objectInit ∈ tb ∧ Cond.code Lib.objectInit ⟨#[0xb1]⟩ 1 none ∈ tb
theorem r_obj {idx a : Nat} (hd : decode M.2.1 pc = .ok (.invokespecial idx, 3)) (hs : OSite M.1.cls idx) (hR : 1 ≤ M.2.2.2.2.frames ∧ 32 ≤ M.2.2.2.2.locals) (h8 : (st.map fun v => v.category).sum ≤ 8)
    (kk : Rn M (pc + 3) L st N S k n out N' S') : Rn M pc L (.ref a :: st) N S k n out N' S' := by
  intro p l e s m args below meth c D tI tZ ad sd A H locs ls C Wk hL
  obtain ⟨hx, hb, hml, hr0, hlo, hnm, hown, hts, hK, hA, hX⟩ := id C
  refine W.objInit hx hb hown (hts _ hs.1) (hts _ hs.2.1) (hts _ hs.2.2) rfl (by rw [hml]; exact hL.1) rfl hd hR.1 ?_ ?_
  · show 2 * 0 + ((st.map (cv ad sd)).map fun v => v.category).sum + 12 ≤ _
    rw [cv_cats]
    omega
  · exact kk C Wk hL
/-! calls -/
def BSite (M M' : MI) (idx nA mc ms : Nat) : Prop :=
  Cond.code M'.1 M'.2.1 M'.2.2.1 M'.2.2.2.1 ∈ tb ∧ Cond.initialized M'.1.cls ∈ tb ∧ (M'.1.cls ≠ "java/lang/invoke/MethodHandle" ∧ M'.1.cls ≠ "java/lang/invoke/VarHandle" ∧ (parseMethodDescriptor M'.1.desc).map (fun d => d.parameters.length) = some nA) ∧
  (M'.2.2.2.2.frames + 1 ≤ M.2.2.2.2.frames ∧ 8 + (M'.2.2.1 + 11) + M'.2.2.2.2.locals ≤ M.2.2.2.2.locals) ∧ M'.2.2.2.2.cells = mc ∧ M'.2.2.2.2.slots = ms
theorem Rn_back {p : Program} {l : Launch} {e : Env} {s : State} {m : MethodId} {args : Array Value} {below : List Frame} {meth : Method} {c : Code} {D : va_G} {tI tZ : ClassId} {ad sd : Nat → Nat} {A : Nat → Prop} {H : Heap} {locs : List Loc} {ls : Array Slot}
    (C : Cx M p s m args meth c D tI tZ sd A) (Wk : Wd D tI tZ ad sd A N S s H locs) (hL : lok ls M.2.2.1 ad sd L) {mc ms N1 : Nat} {S1 : St} {out1 : Option Value} {st0 : List Value} {rest : List Value} {as : Array Value}
    (hr : va_Run p l e M.2.2.2.2 s m args below meth c H locs k n mc ms (F0 m pc ls st0) (rest.map (cv ad sd)) (Qr D tI tZ ad sd (va_A (aw tI tZ ad sd N S) H.size) N out1 N1 S1 as) (va_A (aw tI tZ ad sd N S) H.size))
    (hN : N1 = N ∨ ((∀ v, some v ∈ L → vrk N v) ∧ ∀ v ∈ rest, vrk N v)) (kk : Rn M (pc + 3) L (out1.toList ++ rest) N1 S1 (k + mc) (n + ms) out N' S') :
    W p l e M.2.2.2.2 s m args below meth c H locs k n (MQ below (Qr D tI tZ ad sd A N out N' S') args s M.2.2.2.2.cells M.2.2.2.2.slots A) (F0 m pc ls st0) := by
  have hAA : ∀ q, va_A (aw tI tZ ad sd N S) H.size q → A q := by
    intro q hq
    rcases hq with ⟨j, e9, hj⟩ | hq
    · exact Wk.2.1.2 j _ hj
    · exact C.2.2.2.2.2.2.2.2.2.1 q (Nat.le_trans Wk.2.2.1.1 hq)
  intro T hT X
  obtain ⟨v, st₀, t, T', Lc, h0, X', hLc, e1, e2, ⟨ad', hNN, hag, hsame, hv, hP1, hD1, hF, hok1⟩, stp⟩ := hr T hT X
  have hv2 : v = out1.map (cv ad' sd) := Outcome.returned.inj hv
  have hF1 := hF.1
  have hF2 := hF.2
  rw [h0] at hF1 hF2
  have Wk1 : Wd D tI tZ ad' sd A N1 S1 s T'.heap (locs ++ Lc) := by
    refine ⟨by rw [e1]; exact hP1, hD1.weaken (fun _ _ _ h => hAA _ h), ⟨by rw [e1]; exact Nat.le_trans Wk.2.2.1.1 hF1, fun q h1 h2 => ?_, fun q hq => ?_⟩, hok1⟩
    · rw [e1, hF2 q (Nat.lt_of_lt_of_le h1 Wk.2.2.1.1) (fun z => h2 (hAA q z))]
      exact Wk.2.2.1.2.1 q h1 h2
    · rcases List.mem_append.mp hq with h | h
      · exact Wk.2.2.1.2.2 q h
      · exact hAA _ (hLc q h)
  have hL1 : lok ls M.2.2.1 ad' sd L ∧ rest.map (cv ad' sd) = rest.map (cv ad sd) := by
    rcases hN with hN | ⟨hN1, hN2⟩
    · rw [hsame hN]; exact ⟨hL, rfl⟩
    · exact ⟨lok_agree hL hag hN1, List.map_congr_left (fun v hv => cv_agree hag (hN2 v hv))⟩
  obtain ⟨t2, a1, b1⟩ := kk C Wk1 hL1.1 T' rfl X'
  have hg : ({ F0 m pc ls st0 with pc := (F0 m pc ls st0).pc + 3, stack := v.toList ++ rest.map (cv ad sd) } : JFrame) = F0 m (pc + 3) ls ((out1.toList ++ rest).map (cv ad' sd)) := by
    rw [List.map_append, hL1.2, hv2]
    cases out1 <;> rfl
  refine ⟨t2, stp t2 ?_, MQ_up (fun o t h => Qr_up hNN hag hsame h) t2 b1⟩
  rw [hg]
  exact a1
theorem Pc_blind {D : va_G} {tI tZ : ClassId} {ad sd : Nat → Nat} {sz : Nat} {As : List Value} : FrameBlind (va_Pc As (fun U => U.heap.size = sz ∧ va_P D vwCl (aw tI tZ ad sd N S) U.heap ∧ va_D (fun _ => True) (aw tI tZ ad sd N S) ∧ va_K D vwCl (tyl tI tZ) U ∧ XO sd (va_A (aw tI tZ ad sd N S) sz) U U.heap ∧ sok N S)) := by
  intro a U g mk q
  obtain ⟨q0, q1, q2, q3, q4, q5, q6⟩ := q
  exact ⟨q0, q1, q2, q3, va_K.moved (u := U) (U := U.calling g mk a) (Vm.Alike.refl U.vm) q4, q5.same rfl, q6⟩
theorem Pc_at {p : Program} {s : State} {m : MethodId} {args : Array Value} {meth : Method} {c : Code} {D : va_G} {tI tZ : ClassId} {ad sd : Nat → Nat} {A : Nat → Prop} {H : Heap} {locs : List Loc} {As : List Value}
    (C : Cx M p s m args meth c D tI tZ sd A) (Wk : Wd D tI tZ ad sd A N S s H locs) : ∀ U : State, U.heap = H → s.WarmedH U.vm → va_Pc As (fun U => U.heap.size = H.size ∧ va_P D vwCl (aw tI tZ ad sd N S) U.heap ∧ va_D (fun _ => True) (aw tI tZ ad sd N S) ∧ va_K D vwCl (tyl tI tZ) U ∧ XO sd (va_A (aw tI tZ ad sd N S) H.size) U U.heap ∧ sok N S) As.toArray U := by
  have hAA : ∀ q, va_A (aw tI tZ ad sd N S) H.size q → A q := by
    intro q hq
    rcases hq with ⟨j, e9, hj⟩ | hq
    · exact Wk.2.1.2 j _ hj
    · exact C.2.2.2.2.2.2.2.2.2.1 q (Nat.le_trans Wk.2.2.1.1 hq)
  intro U hU hW
  obtain ⟨hx, hb, hml, hr0, hlo, hnm, hown, hts, hK, hA, hX⟩ := id C
  refine ⟨rfl, by rw [hU], by rw [hU]; exact Wk.1, Wk.2.1.weaken (fun _ _ _ _ => trivial), va_K.moved hW.alike hK, ?_, Wk.2.2.2⟩
  rw [hU]
  exact ((hX.warm hW).kept (fun a h1 h2 => Wk.2.2.1.2.1 a h1 h2)).narrow hAA
def SiteS (M M' : MI) (idx nA mc ms : Nat) : Prop := BSite M M' idx nA mc ms ∧ Cond.methodLink M.1.cls idx M'.1 ∈ tb ∧ Cond.static M'.1 ∈ tb
def SiteV (M M' : MI) (idx nA mc ms : Nat) : Prop := BSite M M' idx nA mc ms ∧ Cond.methodLink M.1.cls idx M'.1 ∈ tb ∧ Cond.instanceMethod M'.1 ∈ tb ∧ Cond.selects M'.1.cls M'.1 M'.1 ∈ tb
def SiteI (M M' : MI) (idx nA mc ms : Nat) : Prop := BSite M M' idx nA mc ms ∧ M'.2.2.2.1 = none ∧ M'.1.name = "<init>" ∧ Cond.instanceMethod M'.1 ∈ tb ∧ Cond.methodLink M.1.cls idx M'.1 ∈ tb
def SiteIN (M M' : MI) (idx nA mc ms : Nat) (host : String) : Prop := BSite M M' idx nA mc ms ∧ M'.2.2.2.1 = none ∧ M'.1.name = "<init>" ∧ Cond.instanceMethod M'.1 ∈ tb ∧ (M.1.cls, idx, M'.1, host) ∈ nestL
theorem callB_at {p : Program} {s : State} {m : MethodId} {args : Array Value} {meth : Method} {c : Code} {D : va_G} {tI tZ : ClassId} {sd : Nat → Nat} {A : Nat → Prop} {M' : MI} {idx nA mc ms : Nat}
    (C : Cx M p s m args meth c D tI tZ sd A) (hB : BSite M M' idx nA mc ms) (hl : Cond.methodLink M.1.cls idx M'.1 ∈ tb) : CallB M.2.2.2.2 s args M.1.cls idx M'.1 M'.2.1 M'.2.2.1 M'.2.2.2.1 (wsM M') M'.2.2.2.2 mc ms nA := by
  have hts := C.2.2.2.2.2.2.2.1
  obtain ⟨w1, w2, w3, w4, w5, w6⟩ := hB
  exact callB_of nA hts (tb_gc w1) rfl w5 w6 (hts _ w2) (hts _ hl) w3 w4
theorem r_callS {M' : MI} {idx nA mc ms N1 : Nat} {S1 : St} {as rest : List Value} {out1 : Option Value} (hd : decode M.2.1 pc = .ok (.invokestatic idx, 3)) (hs : SiteS M M' idx nA mc ms) (hm : Mt M' as N S out1 N1 S1) (hst : st = as.reverse ++ rest) (hn : as.length = nA)
    (h8 : (rest.map fun v => v.category).sum ≤ 8) (hN : N1 = N ∨ ((∀ v, some v ∈ L → vrk N v) ∧ ∀ v ∈ rest, vrk N v)) (hkn : k + mc ≤ M.2.2.2.2.cells ∧ n + ms ≤ M.2.2.2.2.slots)
    (kk : Rn M (pc + 3) L (out1.toList ++ rest) N1 S1 (k + mc) (n + ms) out N' S') : Rn M pc L st N S k n out N' S' := by
  subst hst
  intro p l e s m args below meth c D tI tZ ad sd A H locs ls C Wk hL
  obtain ⟨hx, hb, hml, hr0, hlo, hnm, hown, hts, hK, hA, hX⟩ := id C
  obtain ⟨hB, wl, w1⟩ := hs
  have hM := hm l D tI tZ ad sd H.size
  rw [hB.2.2.2.2.1, hB.2.2.2.2.2] at hM
  refine Rn_back C Wk hL (va_runS (As := as.map (cv ad sd)) ⟨hx, hb, hml, hown, hts⟩ hM ⟨callB_at C hB wl, hts _ w1⟩ ⟨Pc_blind, Pc_at C Wk⟩ rfl (by rw [List.length_map]; exact hn) hL.1 (by simp) (lv_room (by rw [cv_cats]; exact h8)) hd hkn) hN kk
theorem r_callV {M' : MI} {idx nA mc ms N1 ci b : Nat} {S1 : St} {as rest fs : List Value} {out1 : Option Value} (hd : decode M.2.1 pc = .ok (.invokevirtual idx, 3)) (hs : SiteV M M' idx nA mc ms) (hm : Mt M' (.ref b :: as) N S out1 N1 S1) (hst : st = as.reverse ++ .ref b :: rest) (hn : as.length = nA)
    (hb9 : S b = some (.inr (ci, fs))) (hci : ∃ q, vwCl[ci]? = some q ∧ q.1 = M'.1.cls) (h8 : (rest.map fun v => v.category).sum ≤ 8) (hN : N1 = N ∨ ((∀ v, some v ∈ L → vrk N v) ∧ ∀ v ∈ rest, vrk N v)) (hkn : k + mc ≤ M.2.2.2.2.cells ∧ n + ms ≤ M.2.2.2.2.slots)
    (kk : Rn M (pc + 3) L (out1.toList ++ rest) N1 S1 (k + mc) (n + ms) out N' S') : Rn M pc L st N S k n out N' S' := by
  subst hst
  intro p l e s m args below meth c D tI tZ ad sd A H locs ls C Wk hL
  obtain ⟨hx, hb, hml, hr0, hlo, hnm, hown, hts, hK, hA, hX⟩ := id C
  obtain ⟨hB, wl, w1, w2⟩ := hs
  obtain ⟨q, hq1, hq2⟩ := hci
  have hM := hm l D tI tZ ad sd H.size
  rw [hB.2.2.2.2.1, hB.2.2.2.2.2] at hM
  have he := aw_at (tI := tI) (tZ := tZ) (ad := ad) (sd := sd) (Wk.2.2.2 b _ hb9) hb9
  have hrc := va_recv hK Wk.1 hq1 he
  rw [hq2] at hrc
  refine Rn_back C Wk hL (va_runV (As := as.map (cv ad sd)) (b := ad b) ⟨hx, hb, hml, hown, hts⟩ hM ⟨callB_at C hB wl, hts _ w1, hts _ w2⟩ ⟨Pc_blind, hrc, Pc_at C Wk⟩ rfl (by rw [List.length_map]; exact hn) hL.1 (by simp [cv]) (lv_room (by rw [cv_cats]; exact h8)) hd hkn) hN kk
theorem r_callI {M' : MI} {idx nA mc ms N1 b : Nat} {S1 : St} {as rest : List Value} (hd : decode M.2.1 pc = .ok (.invokespecial idx, 3)) (hs : SiteI M M' idx nA mc ms) (hm : Mt M' (.ref b :: as) N S none N1 S1) (hst : st = as.reverse ++ .ref b :: rest) (hn : as.length = nA)
    (h8 : (rest.map fun v => v.category).sum ≤ 8) (hN : N1 = N ∨ ((∀ v, some v ∈ L → vrk N v) ∧ ∀ v ∈ rest, vrk N v)) (hkn : k + mc ≤ M.2.2.2.2.cells ∧ n + ms ≤ M.2.2.2.2.slots)
    (kk : Rn M (pc + 3) L rest N1 S1 (k + mc) (n + ms) out N' S') : Rn M pc L st N S k n out N' S' := by
  subst hst
  intro p l e s m args below meth c D tI tZ ad sd A H locs ls C Wk hL
  obtain ⟨hx, hb, hml, hr0, hlo, hnm, hown, hts, hK, hA, hX⟩ := id C
  obtain ⟨hB, w0, w1, w2, wl⟩ := hs
  have hM := hm l D tI tZ ad sd H.size
  rw [hB.2.2.2.2.1, hB.2.2.2.2.2] at hM
  have hCB := callB_at C hB wl
  rw [w0] at hCB
  refine Rn_back (out1 := none) C Wk hL (va_runI (As := as.map (cv ad sd)) (b := ad b) ⟨hx, hb, hml, hown, hts⟩ hM ⟨hCB, w1, hts _ w2⟩ ⟨Pc_blind, Pc_at C Wk⟩ rfl (by rw [List.length_map]; exact hn) hL.1 (by simp [cv]) (lv_room (by rw [cv_cats]; exact h8)) hd hkn) hN kk
theorem r_callIN {M' : MI} {idx nA mc ms N1 b : Nat} {S1 : St} {as rest : List Value} {host : String} (hd : decode M.2.1 pc = .ok (.invokespecial idx, 3)) (hs : SiteIN M M' idx nA mc ms host) (hm : Mt M' (.ref b :: as) N S none N1 S1) (hst : st = as.reverse ++ .ref b :: rest) (hn : as.length = nA)
    (h8 : (rest.map fun v => v.category).sum ≤ 8) (hN : N1 = N ∨ ((∀ v, some v ∈ L → vrk N v) ∧ ∀ v ∈ rest, vrk N v)) (hkn : k + mc ≤ M.2.2.2.2.cells ∧ n + ms ≤ M.2.2.2.2.slots)
    (kk : Rn M (pc + 3) L rest N1 S1 (k + mc) (n + ms) out N' S') : Rn M pc L st N S k n out N' S' := by
  subst hst
  intro p l e s m args below meth c D tI tZ ad sd A H locs ls C Wk hL
  obtain ⟨hx, hb, hml, hr0, hlo, hnm, hown, hts, hK, hA, hX⟩ := id C
  obtain ⟨⟨v1, v2, v3, v4, v5, v6⟩, w0, w1, w2, wl⟩ := hs
  have hM := hm l D tI tZ ad sd H.size
  rw [v5, v6] at hM
  have hlN : va_Nw (.methodLinkNest M.1.cls idx M'.1 host) s := hX.2.2.2.2 _ wl
  have hCN : va_CN M.2.2.2.2 s args M.1.cls idx M'.1 host M'.2.1 M'.2.2.1 M'.2.2.2.1 (wsM M') M'.2.2.2.2 mc ms nA := va_cnB nA hts (tb_gc v1) rfl v5 v6 hlN (hts _ v2) v3 v4
  rw [w0] at hCN
  refine Rn_back (out1 := none) C Wk hL (va_runIN (As := as.map (cv ad sd)) (b := ad b) ⟨hx, hb, hml, hown, hts⟩ hM ⟨hCN, w1, hts _ w2⟩ ⟨Pc_blind, Pc_at C Wk⟩ rfl (by rw [List.length_map]; exact hn) hL.1 (by simp [cv]) (lv_room (by rw [cv_cats]; exact h8)) hd hkn) hN kk
/-! a call of what a subclass may have made anew: x is named, y runs, owner declares x -/
def SiteU (M M' : MI) (idx nA mc ms : Nat) (C owner : String) (x : MethodName) : Prop := BSite M M' idx nA mc ms ∧ Cond.methodLink M.1.cls idx x ∈ tb ∧ Cond.sameMethod x.cls owner x.name x.desc ∈ tb ∧ (owner ≠ "java/lang/invoke/MethodHandle" ∧ owner ≠ "java/lang/invoke/VarHandle") ∧ (parseMethodDescriptor x.desc).map (fun d => d.parameters.length) = some nA ∧
  Cond.instanceMethod ⟨owner, x.name, x.desc⟩ ∈ tb ∧ (∃ (b0 : ByteArray) (m0 : Nat) (r0 : Option FieldType), Cond.code ⟨owner, x.name, x.desc⟩ b0 m0 r0 ∈ tb) ∧ Cond.selects C x M'.1 ∈ tb ∧ Cond.instanceMethod M'.1 ∈ tb
theorem r_callU {M' : MI} {idx nA mc ms N1 ci b : Nat} {S1 : St} {as rest fs : List Value} {out1 : Option Value} {CC owner : String} {x : MethodName} (hd : decode M.2.1 pc = .ok (.invokevirtual idx, 3)) (hs : SiteU M M' idx nA mc ms CC owner x) (hm : Mt M' (.ref b :: as) N S out1 N1 S1) (hst : st = as.reverse ++ .ref b :: rest) (hn : as.length = nA)
    (hb9 : S b = some (.inr (ci, fs))) (hci : ∃ q, vwCl[ci]? = some q ∧ q.1 = CC) (h8 : (rest.map fun v => v.category).sum ≤ 8) (hN : N1 = N ∨ ((∀ v, some v ∈ L → vrk N v) ∧ ∀ v ∈ rest, vrk N v)) (hkn : k + mc ≤ M.2.2.2.2.cells ∧ n + ms ≤ M.2.2.2.2.slots)
    (kk : Rn M (pc + 3) L (out1.toList ++ rest) N1 S1 (k + mc) (n + ms) out N' S') : Rn M pc L st N S k n out N' S' := by
  subst hst
  intro p l e s m args below meth c D tI tZ ad sd A H locs ls C Wk hL
  obtain ⟨hx, hb, hml, hr0, hlo, hnm, hown, hts, hK, hA, hX⟩ := id C
  obtain ⟨⟨v1, v2, v3, v4, v5, v6⟩, wl, w1, w2, w3, w4, ⟨b0, m0, r0, w5⟩, w6, w7⟩ := hs
  obtain ⟨q, hq1, hq2⟩ := hci
  have hM := hm l D tI tZ ad sd H.size
  rw [v5, v6] at hM
  have he := aw_at (tI := tI) (tZ := tZ) (ad := ad) (sd := sd) (Wk.2.2.2 b _ hb9) hb9
  have hrc := va_recv hK Wk.1 hq1 he
  rw [hq2] at hrc
  have hG : GoodIn tb (va_wsO M.1.cls idx CC owner x M'.1 (wsM M')) := by
    intro w hw
    unfold va_wsO at hw
    rcases List.mem_append.mp hw with h | h
    · simp only [List.mem_cons, List.not_mem_nil, or_false] at h
      rcases h with rfl | rfl | rfl | rfl | rfl | rfl
      · exact tb_gd _ wl
      · exact tb_gd _ w1
      · exact tb_gd _ w4
      · exact tb_gd _ w6
      · exact tb_gd _ w7
      · exact tb_gd _ v2
    · exact tb_gc v1 _ h
  refine Rn_back C Wk hL (va_runU (As := as.map (cv ad sd)) (b := ad b) ⟨hx, hb, hml, hown, hts⟩ hM (va_cwO nA hts hG rfl v5 v6 w5 ⟨w2.1, w2.2, w3⟩ v4) ⟨Pc_blind, hrc, Pc_at C Wk⟩ rfl (by rw [List.length_map]; exact hn) hL.1 (by simp [cv]) (lv_room (by rw [cv_cats]; exact h8)) hd hkn) hN kk
/-! super -/
def SiteSU (M M' : MI) (idx nA mc ms : Nat) : Prop := BSite M M' idx nA mc ms ∧ M'.1.name ≠ "<init>" ∧ Cond.methodLink M.1.cls idx M'.1 ∈ tb ∧ Cond.sameMethod M'.1.cls M'.1.cls M'.1.name M'.1.desc ∈ tb ∧ Cond.superclass M.1.cls M'.1.cls ∈ tb ∧ Cond.instanceMethod M'.1 ∈ tb
theorem r_callSU {M' : MI} {idx nA mc ms N1 ci b : Nat} {S1 : St} {as rest fs : List Value} {out1 : Option Value} (hd : decode M.2.1 pc = .ok (.invokespecial idx, 3)) (hs : SiteSU M M' idx nA mc ms) (hm : Mt M' (.ref b :: as) N S out1 N1 S1) (hst : st = as.reverse ++ .ref b :: rest) (hn : as.length = nA)
    (hb9 : S b = some (.inr (ci, fs))) (hci : ∃ q, vwCl[ci]? = some q) (h8 : (rest.map fun v => v.category).sum ≤ 8) (hN : N1 = N ∨ ((∀ v, some v ∈ L → vrk N v) ∧ ∀ v ∈ rest, vrk N v)) (hkn : k + mc ≤ M.2.2.2.2.cells ∧ n + ms ≤ M.2.2.2.2.slots)
    (kk : Rn M (pc + 3) L (out1.toList ++ rest) N1 S1 (k + mc) (n + ms) out N' S') : Rn M pc L st N S k n out N' S' := by
  subst hst
  intro p l e s m args below meth c D tI tZ ad sd A H locs ls C Wk hL
  obtain ⟨hx, hb, hml, hr0, hlo, hnm, hown, hts, hK, hA, hX⟩ := id C
  obtain ⟨⟨v1, v2, v3, v4, v5, v6⟩, w0, wl, w1, w2, w3⟩ := hs
  obtain ⟨q, hq1⟩ := hci
  have hM := hm l D tI tZ ad sd H.size
  rw [v5, v6] at hM
  have he := aw_at (tI := tI) (tZ := tZ) (ad := ad) (sd := sd) (Wk.2.2.2 b _ hb9) hb9
  have hrc := va_recv hK Wk.1 hq1 he
  have hG : GoodIn tb (va_wsSU M.1.cls idx M'.1 (wsM M')) := by
    intro w hw
    unfold va_wsSU at hw
    rcases List.mem_append.mp hw with h | h
    · simp only [List.mem_cons, List.not_mem_nil, or_false] at h
      rcases h with rfl | rfl | rfl | rfl | rfl
      · exact tb_gd _ wl
      · exact tb_gd _ w1
      · exact tb_gd _ w2
      · exact tb_gd _ w3
      · exact tb_gd _ v2
    · exact tb_gc v1 _ h
  refine Rn_back C Wk hL (va_runSU (As := as.map (cv ad sd)) (b := ad b) (hK.1 ci q hq1).2 ⟨hx, hb, hml, hown, hts⟩ hM (va_cwSU nA hts hG rfl v5 v6 ⟨w0, v3.2.2⟩ v4) ⟨Pc_blind, hrc, Pc_at C Wk⟩ rfl (by rw [List.length_map]; exact hn) hL.1 (by simp [cv]) (lv_room (by rw [cv_cats]; exact h8)) hd hkn) hN kk
/-! super's method that it has of its own super -/
def SiteSX (M M' : MI) (idx nA mc ms : Nat) (owner : String) (x : MethodName) : Prop := BSite M M' idx nA mc ms ∧ x.name ≠ "<init>" ∧ Cond.methodLink M.1.cls idx x ∈ tb ∧ Cond.sameMethod x.cls owner x.name x.desc ∈ tb ∧ Cond.superclass M.1.cls x.cls ∈ tb ∧ Cond.superclass x.cls owner ∈ tb ∧ Cond.instanceMethod M'.1 ∈ tb ∧ M'.1 = ⟨owner, x.name, x.desc⟩
theorem r_callSX {M' : MI} {idx nA mc ms N1 ci b : Nat} {S1 : St} {as rest fs : List Value} {out1 : Option Value} {owner : String} {x : MethodName} (hd : decode M.2.1 pc = .ok (.invokespecial idx, 3)) (hs : SiteSX M M' idx nA mc ms owner x) (hm : Mt M' (.ref b :: as) N S out1 N1 S1) (hst : st = as.reverse ++ .ref b :: rest) (hn : as.length = nA)
    (hb9 : S b = some (.inr (ci, fs))) (hci : ∃ q, vwCl[ci]? = some q) (h8 : (rest.map fun v => v.category).sum ≤ 8) (hN : N1 = N ∨ ((∀ v, some v ∈ L → vrk N v) ∧ ∀ v ∈ rest, vrk N v)) (hkn : k + mc ≤ M.2.2.2.2.cells ∧ n + ms ≤ M.2.2.2.2.slots)
    (kk : Rn M (pc + 3) L (out1.toList ++ rest) N1 S1 (k + mc) (n + ms) out N' S') : Rn M pc L st N S k n out N' S' := by
  subst hst
  intro p l e s m args below meth c D tI tZ ad sd A H locs ls C Wk hL
  obtain ⟨hx, hb, hml, hr0, hlo, hnm, hown, hts, hK, hA, hX⟩ := id C
  obtain ⟨⟨v1, v2, v3, v4, v5, v6⟩, w0, wl, w1, w2, w3, w4, w5⟩ := hs
  obtain ⟨q, hq1⟩ := hci
  have hM := hm l D tI tZ ad sd H.size
  rw [v5, v6] at hM
  have he := aw_at (tI := tI) (tZ := tZ) (ad := ad) (sd := sd) (Wk.2.2.2 b _ hb9) hb9
  obtain ⟨cellB, hcB, hoB, hclB⟩ := va_recv hK Wk.1 hq1 he
  obtain ⟨hfc, kB, hkB, -⟩ := (hK.1 ci q hq1).2
  have hcc : cellB.cls = D.1 ci := Option.some.inj (hclB.symm.trans hfc)
  rw [← hcc] at hkB
  have hB := Rn_back (mc := mc) (ms := ms) (out1 := out1) (rest := rest) (st0 := (as.reverse ++ .ref b :: rest).map (cv ad sd)) (as := ((Value.ref b :: as).map (cv ad sd)).toArray) (l := l) (e := e) (below := below) C Wk hL ?_ hN kk
  · exact hB
  have hKb : Back l M.2.2.2.2 p e below s args M'.1 3 8 (PreOf M.2.2.2.2 mc ms _) (PostOf _ mc ms _) := back_of (bytes := M'.2.1) (maxL := M'.2.2.1) (ret := M'.2.2.2.1) hM Pc_blind v5 v6 v4.1 v4.2 (pay_in hts (tb_gc v1)) List.mem_cons_self (fun a' U hW => word_at hW (tb_gd _ v2).2 (hts _ v2))
  obtain ⟨mk, methM, hnamed, hmethM, hstM, habM⟩ := Cond.instanceMethod_spec (hts _ w4)
  obtain ⟨methM', cM, hmethM', -, -, -, -, -, -, hsigM⟩ := Cond.code_spec hnamed (hts _ v1)
  cases hmethM.symm.trans hmethM'
  obtain ⟨ps, dk, kp, hps, hdk, hkp, hsuper, -, -, hnid⟩ := Cond.superclass_spec hown (hts _ w2)
  obtain ⟨ps2, dk2, kp2, hps2, hdk2, hkp2, hsuper2, -, -, -⟩ := Cond.superclass_spec hps (hts _ w3)
  have hcm : s.vm.findClass M'.1.cls = some mk.cls := findClass_of_methodNamed hnamed
  have hnamed2 : s.methodNamed? ⟨owner, x.name, x.desc⟩ = some mk := by rw [← w5]; exact hnamed
  have hpm : ps2 = mk.cls := by
    rw [w5] at hcm
    exact Option.some.inj (hps2.symm.trans hcm)
  have hsub : s.vm.isSubclass ps mk.cls = true := by
    rw [← hpm]
    have hz : 0 < s.vm.classes.size := Nat.lt_of_le_of_lt (Nat.zero_le _) (Array.getElem?_eq_some_iff.mp hdk2).1
    obtain ⟨z, hz2⟩ : ∃ z, s.vm.classes.size = z + 1 := ⟨s.vm.classes.size - 1, by omega⟩
    simp [Vm.isSubclass, hz2, Vm.isSubclassAux, hdk2, hsuper2]
  intro T hT X
  obtain ⟨vm₁, X₁, hstep₁⟩ := X.invokespecialUp hx hown (hts _ wl) (hts _ w1) hnamed2 hmethM hstM habM w0 hdk hnid hps hsuper hsub (a := ad b) (cell := cellB) (by rw [hT]; exact hcB)
    (fun z h => by rw [h] at hoB; cases hoB) hkB (g := F0 m pc ls ((as.reverse ++ .ref b :: rest).map (cv ad sd))) rfl (argsL := as.map (cv ad sd)) (rest := rest.map (cv ad sd)) (by
      rw [List.length_map, hn]
      have h2 := v3.2.2
      rw [hsigM] at h2
      exact (Option.some.inj h2).symm) (by simp [cv]) (by rw [hb]; exact hd)
  obtain ⟨v, ⟨U', l2, c2, s2⟩, X', ⟨g', mk', t, Lc, e1, e2, hq, h1, hLc, h2, h3⟩, hsteps⟩ := hKb m meth c ⟨T.setVm vm₁, locs, k, n⟩ { F0 m pc ls ((as.reverse ++ .ref b :: rest).map (cv ad sd)) with stack := rest.map (cv ad sd) } (.invokespecial idx) mk (Value.ref (ad b) :: as.map (cv ad sd)).toArray X₁ rfl (hL.1.trans hml.symm) (by rw [hb]; exact hd) (lv_room (rest := rest.map (cv ad sd)) (by rw [cv_cats]; exact h8)) (X₁.named hnamed) ⟨hkn.1, hkn.2, Pc_at C Wk (T.setVm vm₁) hT X₁.warmed⟩
  dsimp only [Pt.U, Pt.locs, Pt.cells, Pt.slots] at X' e1 e2 h1 h2 h3 hsteps
  subst h1; subst h2; subst h3
  exact ⟨v, (T.setVm vm₁).calling g' mk' (Value.ref (ad b) :: as.map (cv ad sd)).toArray, t, U', Lc, hT, X', hLc, e1, e2, hq, fun target h => hstep₁ _ (by rw [doInvoke_state]; exact hsteps.trans h)⟩
end ROWN
