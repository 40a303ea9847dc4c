def q_c7 (G : Mem) (w : Int) : Int := if w = 0 then G 1 2 else if w = 1 then G 1 0 else if w = 2 then G 1 1 else if w = 3 then G 1 8 else if w = 4 then G 1 10 else if w = 5 then G 1 14 else G 53 1
def dgW (G : Mem) : Nat → Int
  | 0 => 977
  | k + 1 => 31 * dgW G k + q_c7 G (k : Int)
def mDig (G : Mem) : Int := 31 * (31 * vDg (rv G 1) (dgW G 7) + G 0 10) + G 0 11
theorem lp_digest {G : Mem} (hV : Vok (rv G 1)) (hS : Sok (rv G 1)) (hD : Dok (rv G 1)) (h14 : 0 ≤ G 1 14 ∧ G 1 14 ≤ 8) (hL : 0 ≤ G 53 1 ∧ G 53 1 ≤ 150) (ha : R32 (G 0 10)) (hb : R32 (G 0 11))  : ∀ k : Nat, k ≤ 7 → RP M_X11_digest 6 [some (.ref 0), some (.long (lI (dgW G k))), none, some (.int (iI (k : Int)))] [] G (vl fun v g => mDig G = v ∧ G = g) := by
  have h2 : 0 ≤ G 1 2 ∧ G 1 2 ≤ 6 := hV.2.2.1
  have h0 : 0 ≤ G 1 0 ∧ G 1 0 ≤ 47 := hV.1
  have h1 : 0 ≤ G 1 1 ∧ G 1 1 ≤ 2 := hV.2.1
  have h8 : 0 ≤ G 1 8 ∧ G 1 8 ≤ 20 := hS.1
  have h10 : 0 ≤ G 1 10 ∧ G 1 10 ≤ 6 := hD.1
  refine cnt ?_ (fun k hk ih => ?_)
  · skip
    refine k_iload_n dX11_digest_6 rfl ?_
    refine k_bipush dX11_digest_7 (by decide) ?_
    refine k_icmp_gt 31 dX11_digest_9 (by decide) ⟨by omega, by omega⟩ ⟨by decide, by decide⟩ (fun h9 => ?_) (fun h9 => absurd h9 (by omega))
    refine k_aload_n dX11_digest_31 rfl ?_
    refine k_getR dX11_digest_32 f_X11_10 (Nat.le_of_ble_eq_true rfl) sh_o0 (fun _ => rfl) ?_
    refine k_lload_n dX11_digest_35 rfl ?_
    refine k_callVl [.long (lI _)] dX11_digest_36 s_X11_digest_259 rfl (m_digestOn rd1 hV hS hD) rfl (Nat.le_of_ble_eq_true rfl) (Rd.o rd1) ⟨_, rfl, rfl⟩ (Nat.le_of_ble_eq_true rfl) ?_
    rintro _ _ ⟨rfl, rfl⟩
    refine k_lstore_n (L' := [_, _, _, _]) dX11_digest_39 (Nat.le_of_ble_eq_true rfl) rfl ?_
    refine k_ldc2 31 dX11_digest_40 w_815 ?_
    refine k_lload_n dX11_digest_43 rfl ?_
    refine k_lmul dX11_digest_44 ?_
    refine k_aload_n dX11_digest_45 rfl ?_
    refine k_getI dX11_digest_46 f_X11_233 (Nat.le_of_ble_eq_true rfl) sh_o0 (fun _ => rfl) ?_
    refine k_i2l dX11_digest_49 ha ?_
    refine k_ladd dX11_digest_50 ?_
    refine k_lstore_n (L' := [_, _, _, _]) dX11_digest_51 (Nat.le_of_ble_eq_true rfl) rfl ?_
    refine k_ldc2 31 dX11_digest_52 w_815 ?_
    refine k_lload_n dX11_digest_55 rfl ?_
    refine k_lmul dX11_digest_56 ?_
    refine k_aload_n dX11_digest_57 rfl ?_
    refine k_getI dX11_digest_58 f_X11_53 (Nat.le_of_ble_eq_true rfl) sh_o0 (fun _ => rfl) ?_
    refine k_i2l dX11_digest_61 hb ?_
    refine k_ladd dX11_digest_62 ?_
    exact k_lret dX11_digest_63 rfl ⟨_, rfl, rfl, rfl⟩
  · skip
    have hc : R32 (q_c7 G (k : Int)) := by
      unfold q_c7
      (repeat' split) <;> exact ⟨by omega, by omega⟩
    refine k_iload_n dX11_digest_6 rfl ?_
    refine k_bipush dX11_digest_7 (by decide) ?_
    refine k_icmp_gt 31 dX11_digest_9 (by decide) ⟨by omega, by omega⟩ ⟨by decide, by decide⟩ (fun h9 => absurd h9 (by omega)) (fun h9 => ?_)
    refine k_ldc2 31 dX11_digest_12 w_815 ?_
    refine k_lload_n dX11_digest_15 rfl ?_
    refine k_lmul dX11_digest_16 ?_
    refine k_aload_n dX11_digest_17 rfl ?_
    refine k_iload_n dX11_digest_18 rfl ?_
    refine k_callVi [.int (iI _)] dX11_digest_19 s_X11_digest_252 rfl (m_countOf ⟨by omega, by omega⟩) rfl (Nat.le_of_ble_eq_true rfl) sh_o0 ⟨_, rfl, rfl⟩ (Nat.le_of_ble_eq_true rfl) ?_
    rintro _ _ ⟨rfl, rfl⟩
    change RP _ _ _ (.int (iI (q_c7 G (k : Int))) :: _) _ _
    refine k_i2l dX11_digest_22 hc ?_
    refine k_ladd dX11_digest_23 ?_
    refine k_lstore_n (L' := [_, _, _, _]) dX11_digest_24 (Nat.le_of_ble_eq_true rfl) rfl ?_
    refine k_iinc (L' := [_, _, _, _]) dX11_digest_25 rfl (Nat.le_of_ble_eq_true rfl) rfl ?_
    refine k_goto 6 dX11_digest_28 (by decide) ?_
    exact ih
theorem m_pDigest {G : Mem} (hV : Vok (rv G 1)) (hS : Sok (rv G 1)) (hD : Dok (rv G 1)) (h14 : 0 ≤ G 1 14 ∧ G 1 14 ≤ 8) (hL : 0 ≤ G 53 1 ∧ G 53 1 ≤ 150) (ha : R32 (G 0 10)) (hb : R32 (G 0 11))  : MP M_X11_digest [.ref 0] G (vl fun v g => mDig G = v ∧ G = g) := by
  refine MP.of [some (.ref 0), none, none, none] (plainFor_of_name pn_X11) (Nat.le_of_ble_eq_true rfl) rfl ?_
  refine k_ldc2 977 dX11_digest_0 w_814 ?_
  refine k_lstore_n (L' := [_, _, _, _]) dX11_digest_3 (Nat.le_of_ble_eq_true rfl) rfl ?_
  refine k_iconst dX11_digest_4 ?_
  refine k_istore_n (L' := [_, _, _, _]) dX11_digest_5 (Nat.le_of_ble_eq_true rfl) rfl ?_
  exact lp_digest hV hS hD h14 hL ha hb 0 (by omega)
