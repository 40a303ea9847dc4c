theorem rBegin_row {G : Mem} {r j : Nat} {s l : Int} : rBegin G r s l (r + 11) j = G (r + 11) j := by
  unfold rBegin
  simp (disch := omega) only [ug_nc]
theorem rAdd_row {G : Mem} {r j : Nat} {k h c s b : Int} : rAdd G r k h c s b (r + 11) j = G (r + 11) j := by
  unfold rAdd
  split
  · rfl
  · simp (disch := omega) only [ug_nc]
theorem inF_b {r : Nat} (hr5 : r + 12 < 53) : ∀ (d it : Nat) (G : Mem) (p : Nat), it ≤ 7 → Tok G → p ≤ tL G → (-160 ≤ (inF r d it G p).1 ∧ (inF r d it G p).1 ≤ 7) ∧ ∀ j, (inF r d it G p).2.1 (r + 11) j = G (r + 11) j := by
  intro d
  induction d with
  | zero =>
    intro it G p _ _ _
    exact ⟨by show (-160 : Int) ≤ 0 ∧ (0 : Int) ≤ 7; decide, fun _ => rfl⟩
  | succ d ih =>
    intro it G p h1 hG hp
    have hL := hG.tl
    have hs := tSk_b (T := G 54) hp
    have b1 := riE_b (T := G 54) hs.2
    have b2 := ciE_b (T := G 54) hs.2
    unfold inF
    split
    · refine ⟨?_, fun _ => rfl⟩
      dsimp only
      constructor <;> split <;> omega
    · split
      · split
        · have h := ih (it + 1) (rBegin G r (riS (G 54) (tL G) (tSk (G 54) (tL G) p)) (riL (G 54) (tL G) (tSk (G 54) (tL G) p))) (riE (G 54) (tL G) (tSk (G 54) (tL G) p)) (by omega) (hG.begin hr5) (by show _ ≤ (rBegin G r _ _ 53 1).toNat; rw [rBegin_ne (by omega)]; exact b1)
          exact ⟨h.1, fun j => (h.2 j).trans rBegin_row⟩
        · refine ⟨?_, fun _ => rfl⟩
          show -160 ≤ -10 - _ ∧ -10 - _ ≤ (7 : Int)
          omega
      · split
        · have h := ih (it + 1) (rAdd G r (ciK (G 54) (tL G) (tSk (G 54) (tL G) p)) (ciH (G 54) (tL G) (tSk (G 54) (tL G) p)) (ciC (G 54) (tL G) (tSk (G 54) (tL G) p)) (ciS (G 54) (tL G) (tSk (G 54) (tL G) p)) (ciB (G 54) (tL G) (tSk (G 54) (tL G) p))) (ciE (G 54) (tL G) (tSk (G 54) (tL G) p)) (by omega) (hG.add hr5) (by show _ ≤ (rAdd G r _ _ _ _ _ 53 1).toNat; rw [rAdd_ne (by omega)]; exact b2)
          exact ⟨h.1, fun j => (h.2 j).trans rAdd_row⟩
        · refine ⟨?_, fun _ => rfl⟩
          show -160 ≤ -10 - _ ∧ -10 - _ ≤ (7 : Int)
          omega
/-- the memory after the text is read into the trial road -/
def mIn (G : Mem) : Mem := tp (inF 14 8 0 G 0).2.1 (inF 14 8 0 G 0).2.2
theorem m_pRead {G : Mem} (hG : Tok G) (h2 : 0 ≤ G 14 2 ∧ G 14 2 ≤ 6) (hz : ∀ j, G (14 + 11) j = 0 ∨ G (14 + 11) j = 1) : MP M_X11_read [.ref 0] G (vi fun v g => (inF 14 8 0 G 0).1 = v ∧ (if 0 < (inF 14 8 0 G 0).1 then rCopy (mIn G) 1 14 else mIn G) = g) := by
  have hb := inF_b (r := 14) (by decide) 8 0 G 0 (by decide) hG (Nat.zero_le _)
  have hz2 : ∀ j, mIn G (14 + 11) j = 0 ∨ mIn G (14 + 11) j = 1 := by
    intro j
    rw [show mIn G (14 + 11) j = G (14 + 11) j from (tp_ne (by omega)).trans (hb.2 j)]
    exact hz j
  refine MP.of [some (.ref 0), none] (plainFor_of_name pn_X11) (Nat.le_of_ble_eq_true rfl) rfl ?_
  refine k_aload_n dX11_read_0 rfl ?_
  refine k_getR dX11_read_1 f_X11_28 (Nat.le_of_ble_eq_true rfl) sh_o0 (fun _ => rfl) ?_
  refine k_aload_n dX11_read_4 rfl ?_
  refine k_getR dX11_read_5 f_X11_16 (Nat.le_of_ble_eq_true rfl) sh_o0 (fun _ => rfl) ?_
  refine k_callVi [.ref _] dX11_read_8 s_X11_read_120 rfl (m_readInto hG rd14 (by decide) h2) rfl (Nat.le_of_ble_eq_true rfl) sh_o53 ⟨_, rfl, rfl⟩ (Nat.le_of_ble_eq_true rfl) ?_
  rintro _ _ ⟨rfl, rfl⟩
  change RP _ _ _ _ (mIn G) _
  refine k_istore_n (L' := [_, _]) dX11_read_11 (Nat.le_of_ble_eq_true rfl) rfl ?_
  refine k_iload_n dX11_read_12 rfl ?_
  refine k_if_le 27 dX11_read_13 (by decide) ⟨by omega, by omega⟩ (fun h13 => ?_) (fun h13 => ?_)
  · skip
    refine k_iload_n dX11_read_27 rfl ?_
    exact k_iret dX11_read_28 rfl ⟨_, rfl, rfl, by first | exact if_pos (by omega) | exact if_neg (by omega)⟩
  · skip
    refine k_aload_n dX11_read_16 rfl ?_
    refine k_getR dX11_read_17 f_X11_10 (Nat.le_of_ble_eq_true rfl) sh_o0 (fun _ => rfl) ?_
    refine k_aload_n dX11_read_20 rfl ?_
    refine k_getR dX11_read_21 f_X11_16 (Nat.le_of_ble_eq_true rfl) sh_o0 (fun _ => rfl) ?_
    refine k_callVv [.ref _] dX11_read_24 s_X11_read_124 rfl (m_copyFrom rd1 rd14 (by omega) hz2) rfl (Nat.le_of_ble_eq_true rfl) (Rd.o rd1) ⟨_, rfl, rfl⟩ (Nat.le_of_ble_eq_true rfl) ?_
    rintro _ rfl
    refine k_iload_n dX11_read_27 rfl ?_
    exact k_iret dX11_read_28 rfl ⟨_, rfl, rfl, by first | exact if_pos (by omega) | exact if_neg (by omega)⟩
