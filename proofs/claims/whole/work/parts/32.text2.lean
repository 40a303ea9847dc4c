/-! ===== a whole text ===== -/
theorem rBegin_ne {G : Mem} {r x y : Nat} {s l : Int} (h : x < r ∨ r + 12 < x) : rBegin G r s l x y = G x y := by
  unfold rBegin
  simp (disch := omega) only [ug_nc]
theorem rAdd_ne {G : Mem} {r x y : Nat} {k h c s b : Int} (e : x < r ∨ r + 12 < x) : rAdd G r k h c s b x y = G x y := by
  unfold rAdd
  split
  · rfl
  · simp (disch := omega) only [ug_nc]
theorem rBegin_n {G : Mem} {r : Nat} {s l : Int} : rBegin G r s l r 2 = 0 := by
  unfold rBegin
  simp (disch := omega) only [ug_np, ug_at]
theorem rAdd_n {G : Mem} {r : Nat} {k h c s b : Int} (hn : 0 ≤ G r 2 ∧ G r 2 ≤ 6) : 0 ≤ rAdd G r k h c s b r 2 ∧ rAdd G r k h c s b r 2 ≤ 6 := by
  unfold rAdd
  split
  · exact hn
  · simp (disch := omega) only [ug_np, ug_at]
    omega
theorem riE_b {T : Nat → Int} {L p : Nat} (hp : p ≤ L) : riE T L p ≤ L := by
  have b1 : riP1 T L p ≤ L := wTo_b hp
  have b2 : riP2 T L p ≤ L := nTo_b b1
  have b3 : riP3 T L p ≤ L := nTo_b b2
  have b4 := sTo_b (T := T) b3
  unfold riE
  (repeat' split) <;> assumption
theorem ciE_b {T : Nat → Int} {L p : Nat} (hp : p ≤ L) : ciE T L p ≤ L := by
  have b1 : ciP1 T L p ≤ L := wTo_b hp
  have b2 : ciP2 T L p ≤ L := nTo_b b1
  have b3 : ciP3 T L p ≤ L := nTo_b b2
  have b4 : ciP4 T L p ≤ L := nTo_b b3
  have b5 : ciP5 T L p ≤ L := nTo_b b4
  have b6 : ciP6 T L p ≤ L := nTo_b b5
  have b7 := sTo_b (T := T) b6
  unfold ciE
  (repeat' split) <;> assumption
theorem tSk_end {T : Nat → Int} {L q : Nat} (h : L ≤ q) : tSk T L q = q := by
  unfold tSk
  rw [show L - q = 0 by omega]
  rfl
theorem Tok.begin {G : Mem} {r : Nat} {s l : Int} (h : Tok G) (hr : r + 12 < 53) : Tok (rBegin G r s l) := h.of (rBegin_ne (by omega)) (fun _ => rBegin_ne (by omega))
theorem Tok.add {G : Mem} {r : Nat} {k h c s b : Int} (hh : Tok G) (hr : r + 12 < 53) : Tok (rAdd G r k h c s b) := hh.of (rAdd_ne (by omega)) (fun _ => rAdd_ne (by omega))
def inF (r : Nat) : Nat → Nat → Mem → Nat → Int × (Mem × Nat)
  | 0, _, G, p => (0, G, p)
  | d + 1, it, G, p =>
    if 6 < it ∨ tL G ≤ (tSk (G 54) (tL G) p) then ((if it ≠ 0 ∧ tL G ≤ (tSk (G 54) (tL G) p) then (it : Int) else -10 - ((tSk (G 54) (tL G) p) : Int)), G, (tSk (G 54) (tL G) p))
    else if it = 0 then (if riO (G 54) (tL G) (tSk (G 54) (tL G) p) = true then inF r d (it + 1) (rBegin G r (riS (G 54) (tL G) (tSk (G 54) (tL G) p)) (riL (G 54) (tL G) (tSk (G 54) (tL G) p))) (riE (G 54) (tL G) (tSk (G 54) (tL G) p)) else (-10 - (riE (G 54) (tL G) (tSk (G 54) (tL G) p) : Int), G, riE (G 54) (tL G) (tSk (G 54) (tL G) p)))
    else (if ciO (G 54) (tL G) (tSk (G 54) (tL G) p) = true then inF r d (it + 1) (rAdd G r (ciK (G 54) (tL G) (tSk (G 54) (tL G) p)) (ciH (G 54) (tL G) (tSk (G 54) (tL G) p)) (ciC (G 54) (tL G) (tSk (G 54) (tL G) p)) (ciS (G 54) (tL G) (tSk (G 54) (tL G) p)) (ciB (G 54) (tL G) (tSk (G 54) (tL G) p))) (ciE (G 54) (tL G) (tSk (G 54) (tL G) p)) else (-10 - (ciE (G 54) (tL G) (tSk (G 54) (tL G) p) : Int), G, ciE (G 54) (tL G) (tSk (G 54) (tL G) p)))
theorem lp_readInto {r : Nat} (hr : Rd r) (hr5 : r + 12 < 53) : ∀ (d it : Nat) (G : Mem) (p : Nat) (j3 : Option Value), it + d = 8 → it ≤ 7 → Tok G → (0 ≤ G r 2 ∧ G r 2 ≤ 6) → p ≤ tL G → RP M_X7_readInto 7 [some (.ref 53), some (.ref r), some (.int (iI (it : Int))), j3] [] (tp G p) (vi fun v g => (inF r d it G p).1 = v ∧ tp (inF r d it G p).2.1 (inF r d it G p).2.2 = g) := by
  intro d
  induction d with
  | zero =>
    intro it G p j3 h1 h2
    exact absurd h1 (by omega)
  | succ d ih =>
    intro it G p j3 h1 h2 hG hn hp
    have hL := hG.tl
    have hs := tSk_b (T := G 54) hp
    have e := inF.eq_2 r it G p d
    have b1 := riE_b (T := G 54) hs.2
    have b2 := ciE_b (T := G 54) hs.2
    refine k_iload_n dX7_readInto_7 rfl ?_
    refine k_bipush dX7_readInto_8 (by decide) ?_
    refine k_icmp_gt 56 dX7_readInto_10 (by decide) ⟨by omega, by omega⟩ ⟨by decide, by decide⟩ (fun h10 => ?_) (fun h10 => ?_)
    · skip
      refine k_iload_n dX7_readInto_56 rfl ?_
      refine k_if_eq 67 dX7_readInto_57 (by decide) ⟨by omega, by omega⟩ (fun h57 => ?_) (fun h57 => ?_)
      · skip
        refine k_bipush dX7_readInto_67 (by decide) ?_
        refine k_aload_n dX7_readInto_69 rfl ?_
        refine k_getI dX7_readInto_70 f_X7_19 (Nat.le_of_ble_eq_true rfl) sh_o53 (fun _ => rfl) ?_
        try simp only [tp_at, tp_len, tp_by]
        refine k_isub dX7_readInto_73 ?_
        refine k_goto 78 dX7_readInto_74 (by decide) ?_
        exact k_iret dX7_readInto_78 rfl ⟨_, rfl, by rw [e]; first | (exfalso; omega) | (rw [if_pos (by omega), if_pos (by omega)]; done) | (rw [if_pos (by omega), if_neg (by omega)]; done) | (rw [if_neg (by omega), if_pos (by omega), if_neg h39]; done) | (rw [if_neg (by omega), if_neg (by omega), if_neg h39]; done), by rw [e]; first | (exfalso; omega) | (rw [if_pos (by omega)]; done) | (rw [if_neg (by omega), if_pos (by omega), if_neg h39]; done) | (rw [if_neg (by omega), if_neg (by omega), if_neg h39]; done)⟩
      · skip
        refine k_aload_n dX7_readInto_60 rfl ?_
        refine k_callVi [] dX7_readInto_61 s_X7_readInto_22 rfl (m_isAtEnd hG (by first | exact hs.2 | exact hp)) rfl (Nat.le_of_ble_eq_true rfl) sh_o53 ⟨_, rfl, rfl⟩ (Nat.le_of_ble_eq_true rfl) ?_
        rintro _ _ ⟨rfl, rfl⟩
        try rw [tSk_end h17]
        refine k_ifb_ne 77 dX7_readInto_64 (by decide) (fun h64 => ?_) (fun h64 => ?_)
        · skip
          refine k_iload_n dX7_readInto_77 rfl ?_
          exact k_iret dX7_readInto_78 rfl ⟨_, rfl, by rw [e]; first | (exfalso; omega) | (rw [if_pos (by omega), if_pos (by omega)]; done) | (rw [if_pos (by omega), if_neg (by omega)]; done) | (rw [if_neg (by omega), if_pos (by omega), if_neg h39]; done) | (rw [if_neg (by omega), if_neg (by omega), if_neg h39]; done), by rw [e]; first | (exfalso; omega) | (rw [if_pos (by omega)]; done) | (rw [if_neg (by omega), if_pos (by omega), if_neg h39]; done) | (rw [if_neg (by omega), if_neg (by omega), if_neg h39]; done)⟩
        · skip
          refine k_bipush dX7_readInto_67 (by decide) ?_
          refine k_aload_n dX7_readInto_69 rfl ?_
          refine k_getI dX7_readInto_70 f_X7_19 (Nat.le_of_ble_eq_true rfl) sh_o53 (fun _ => rfl) ?_
          try simp only [tp_at, tp_len, tp_by]
          refine k_isub dX7_readInto_73 ?_
          refine k_goto 78 dX7_readInto_74 (by decide) ?_
          exact k_iret dX7_readInto_78 rfl ⟨_, rfl, by rw [e]; first | (exfalso; omega) | (rw [if_pos (by omega), if_pos (by omega)]; done) | (rw [if_pos (by omega), if_neg (by omega)]; done) | (rw [if_neg (by omega), if_pos (by omega), if_neg h39]; done) | (rw [if_neg (by omega), if_neg (by omega), if_neg h39]; done), by rw [e]; first | (exfalso; omega) | (rw [if_pos (by omega)]; done) | (rw [if_neg (by omega), if_pos (by omega), if_neg h39]; done) | (rw [if_neg (by omega), if_neg (by omega), if_neg h39]; done)⟩
    · skip
      refine k_aload_n dX7_readInto_13 rfl ?_
      refine k_callVi [] dX7_readInto_14 s_X7_readInto_22 rfl (m_isAtEnd hG (by first | exact hs.2 | exact hp)) rfl (Nat.le_of_ble_eq_true rfl) sh_o53 ⟨_, rfl, rfl⟩ (Nat.le_of_ble_eq_true rfl) ?_
      rintro _ _ ⟨rfl, rfl⟩
      refine k_ifb_ne 56 dX7_readInto_17 (by decide) (fun h17 => ?_) (fun h17 => ?_)
      · skip
        refine k_iload_n dX7_readInto_56 rfl ?_
        refine k_if_eq 67 dX7_readInto_57 (by decide) ⟨by omega, by omega⟩ (fun h57 => ?_) (fun h57 => ?_)
        · skip
          refine k_bipush dX7_readInto_67 (by decide) ?_
          refine k_aload_n dX7_readInto_69 rfl ?_
          refine k_getI dX7_readInto_70 f_X7_19 (Nat.le_of_ble_eq_true rfl) sh_o53 (fun _ => rfl) ?_
          try simp only [tp_at, tp_len, tp_by]
          refine k_isub dX7_readInto_73 ?_
          refine k_goto 78 dX7_readInto_74 (by decide) ?_
          exact k_iret dX7_readInto_78 rfl ⟨_, rfl, by rw [e]; first | (exfalso; omega) | (rw [if_pos (by omega), if_pos (by omega)]; done) | (rw [if_pos (by omega), if_neg (by omega)]; done) | (rw [if_neg (by omega), if_pos (by omega), if_neg h39]; done) | (rw [if_neg (by omega), if_neg (by omega), if_neg h39]; done), by rw [e]; first | (exfalso; omega) | (rw [if_pos (by omega)]; done) | (rw [if_neg (by omega), if_pos (by omega), if_neg h39]; done) | (rw [if_neg (by omega), if_neg (by omega), if_neg h39]; done)⟩
        · skip
          refine k_aload_n dX7_readInto_60 rfl ?_
          refine k_callVi [] dX7_readInto_61 s_X7_readInto_22 rfl (m_isAtEnd hG (by first | exact hs.2 | exact hp)) rfl (Nat.le_of_ble_eq_true rfl) sh_o53 ⟨_, rfl, rfl⟩ (Nat.le_of_ble_eq_true rfl) ?_
          rintro _ _ ⟨rfl, rfl⟩
          try rw [tSk_end h17]
          refine k_ifb_ne 77 dX7_readInto_64 (by decide) (fun h64 => ?_) (fun h64 => ?_)
          · skip
            refine k_iload_n dX7_readInto_77 rfl ?_
            exact k_iret dX7_readInto_78 rfl ⟨_, rfl, by rw [e]; first | (exfalso; omega) | (rw [if_pos (by omega), if_pos (by omega)]; done) | (rw [if_pos (by omega), if_neg (by omega)]; done) | (rw [if_neg (by omega), if_pos (by omega), if_neg h39]; done) | (rw [if_neg (by omega), if_neg (by omega), if_neg h39]; done), by rw [e]; first | (exfalso; omega) | (rw [if_pos (by omega)]; done) | (rw [if_neg (by omega), if_pos (by omega), if_neg h39]; done) | (rw [if_neg (by omega), if_neg (by omega), if_neg h39]; done)⟩
          · skip
            refine k_bipush dX7_readInto_67 (by decide) ?_
            refine k_aload_n dX7_readInto_69 rfl ?_
            refine k_getI dX7_readInto_70 f_X7_19 (Nat.le_of_ble_eq_true rfl) sh_o53 (fun _ => rfl) ?_
            try simp only [tp_at, tp_len, tp_by]
            refine k_isub dX7_readInto_73 ?_
            refine k_goto 78 dX7_readInto_74 (by decide) ?_
            exact k_iret dX7_readInto_78 rfl ⟨_, rfl, by rw [e]; first | (exfalso; omega) | (rw [if_pos (by omega), if_pos (by omega)]; done) | (rw [if_pos (by omega), if_neg (by omega)]; done) | (rw [if_neg (by omega), if_pos (by omega), if_neg h39]; done) | (rw [if_neg (by omega), if_neg (by omega), if_neg h39]; done), by rw [e]; first | (exfalso; omega) | (rw [if_pos (by omega)]; done) | (rw [if_neg (by omega), if_pos (by omega), if_neg h39]; done) | (rw [if_neg (by omega), if_neg (by omega), if_neg h39]; done)⟩
      · skip
        refine k_iload_n dX7_readInto_20 rfl ?_
        refine k_if_ne 32 dX7_readInto_21 (by decide) ⟨by omega, by omega⟩ (fun h21 => ?_) (fun h21 => ?_)
        · skip
          refine k_aload_n dX7_readInto_32 rfl ?_
          refine k_aload_n dX7_readInto_33 rfl ?_
          refine k_callVi [.ref _] dX7_readInto_34 s_X7_readInto_30 rfl (m_readChildItem hG hr hr5 hn hs.2) rfl (Nat.le_of_ble_eq_true rfl) sh_o53 ⟨_, rfl, rfl⟩ (Nat.le_of_ble_eq_true rfl) ?_
          rintro _ _ ⟨rfl, rfl⟩
          refine k_istore_n (L' := [_, _, _, _]) dX7_readInto_37 (Nat.le_of_ble_eq_true rfl) rfl ?_
          refine k_iload_n dX7_readInto_38 rfl ?_
          refine k_ifb_ne 50 dX7_readInto_39 (by decide) (fun h39 => ?_) (fun h39 => ?_)
          · skip
            rw [if_pos h39]
            refine k_iinc (L' := [_, _, _, _]) dX7_readInto_50 rfl (Nat.le_of_ble_eq_true rfl) rfl ?_
            refine k_goto 7 dX7_readInto_53 (by decide) ?_
            first
              | (rw [if_neg (by omega), if_pos (by omega), if_pos h39] at e
                 rw [e]
                 exact ih (it + 1) _ _ _ (by omega) (by omega) (hG.begin hr5) (by rw [rBegin_n]; omega) (by show _ ≤ (rBegin G r _ _ 53 1).toNat; rw [rBegin_ne (by omega)]; exact b1))
              | (rw [if_neg (by omega), if_neg (by omega), if_pos h39] at e
                 rw [e]
                 exact ih (it + 1) _ _ _ (by omega) (by omega) (hG.add hr5) (rAdd_n hn) (by show _ ≤ (rAdd G r _ _ _ _ _ 53 1).toNat; rw [rAdd_ne (by omega)]; exact b2))
          · skip
            rw [if_neg h39]
            refine k_bipush dX7_readInto_42 (by decide) ?_
            refine k_aload_n dX7_readInto_44 rfl ?_
            refine k_getI dX7_readInto_45 f_X7_19 (Nat.le_of_ble_eq_true rfl) sh_o53 (fun _ => rfl) ?_
            try simp only [tp_at, tp_len, tp_by]
            refine k_isub dX7_readInto_48 ?_
            exact k_iret dX7_readInto_49 rfl ⟨_, rfl, by rw [e]; first | (exfalso; omega) | (rw [if_pos (by omega), if_pos (by omega)]; done) | (rw [if_pos (by omega), if_neg (by omega)]; done) | (rw [if_neg (by omega), if_pos (by omega), if_neg h39]; done) | (rw [if_neg (by omega), if_neg (by omega), if_neg h39]; done), by rw [e]; first | (exfalso; omega) | (rw [if_pos (by omega)]; done) | (rw [if_neg (by omega), if_pos (by omega), if_neg h39]; done) | (rw [if_neg (by omega), if_neg (by omega), if_neg h39]; done)⟩
        · skip
          refine k_aload_n dX7_readInto_24 rfl ?_
          refine k_aload_n dX7_readInto_25 rfl ?_
          refine k_callVi [.ref _] dX7_readInto_26 s_X7_readInto_26 rfl (m_readRoadItem hG hr hr5 hs.2) rfl (Nat.le_of_ble_eq_true rfl) sh_o53 ⟨_, rfl, rfl⟩ (Nat.le_of_ble_eq_true rfl) ?_
          rintro _ _ ⟨rfl, rfl⟩
          refine k_goto 37 dX7_readInto_29 (by decide) ?_
          refine k_istore_n (L' := [_, _, _, _]) dX7_readInto_37 (Nat.le_of_ble_eq_true rfl) rfl ?_
          refine k_iload_n dX7_readInto_38 rfl ?_
          refine k_ifb_ne 50 dX7_readInto_39 (by decide) (fun h39 => ?_) (fun h39 => ?_)
          · skip
            rw [if_pos h39]
            refine k_iinc (L' := [_, _, _, _]) dX7_readInto_50 rfl (Nat.le_of_ble_eq_true rfl) rfl ?_
            refine k_goto 7 dX7_readInto_53 (by decide) ?_
            first
              | (rw [if_neg (by omega), if_pos (by omega), if_pos h39] at e
                 rw [e]
                 exact ih (it + 1) _ _ _ (by omega) (by omega) (hG.begin hr5) (by rw [rBegin_n]; omega) (by show _ ≤ (rBegin G r _ _ 53 1).toNat; rw [rBegin_ne (by omega)]; exact b1))
              | (rw [if_neg (by omega), if_neg (by omega), if_pos h39] at e
                 rw [e]
                 exact ih (it + 1) _ _ _ (by omega) (by omega) (hG.add hr5) (rAdd_n hn) (by show _ ≤ (rAdd G r _ _ _ _ _ 53 1).toNat; rw [rAdd_ne (by omega)]; exact b2))
          · skip
            rw [if_neg h39]
            refine k_bipush dX7_readInto_42 (by decide) ?_
            refine k_aload_n dX7_readInto_44 rfl ?_
            refine k_getI dX7_readInto_45 f_X7_19 (Nat.le_of_ble_eq_true rfl) sh_o53 (fun _ => rfl) ?_
            try simp only [tp_at, tp_len, tp_by]
            refine k_isub dX7_readInto_48 ?_
            exact k_iret dX7_readInto_49 rfl ⟨_, rfl, by rw [e]; first | (exfalso; omega) | (rw [if_pos (by omega), if_pos (by omega)]; done) | (rw [if_pos (by omega), if_neg (by omega)]; done) | (rw [if_neg (by omega), if_pos (by omega), if_neg h39]; done) | (rw [if_neg (by omega), if_neg (by omega), if_neg h39]; done), by rw [e]; first | (exfalso; omega) | (rw [if_pos (by omega)]; done) | (rw [if_neg (by omega), if_pos (by omega), if_neg h39]; done) | (rw [if_neg (by omega), if_neg (by omega), if_neg h39]; done)⟩
theorem m_readInto {G : Mem} (hG : Tok G) {r : Nat} (hr : Rd r) (hr5 : r + 12 < 53) (hn : 0 ≤ G r 2 ∧ G r 2 ≤ 6) : MP M_X7_readInto [.ref 53, .ref r] G (vi fun v g => (inF r 8 0 G 0).1 = v ∧ tp (inF r 8 0 G 0).2.1 (inF r 8 0 G 0).2.2 = g) := by
  refine MP.of [some (.ref 53), some (.ref r), none, none] (plainFor_of_name pn_X7) (Nat.le_of_ble_eq_true rfl) rfl ?_
  refine k_aload_n dX7_readInto_0 rfl ?_
  refine k_iconst dX7_readInto_1 ?_
  refine k_putI dX7_readInto_2 f_X7_19 (Nat.le_of_ble_eq_true rfl) sh_o53 (fun _ => (Nat.le_of_ble_eq_true rfl)) rfl (fun _ => rfl) ?_
  refine k_iconst dX7_readInto_5 ?_
  refine k_istore_n (L' := [_, _, _, _]) dX7_readInto_6 (Nat.le_of_ble_eq_true rfl) rfl ?_
  exact lp_readInto hr hr5 8 0 G 0 _ rfl (by omega) hG hn (Nat.zero_le _)
