/-! ===== what stands where ===== -/
theorem sh_a54 : ∀ g, sh 54 g = shI 150 g := fun _ => rfl
theorem sh_a74 : ∀ g, sh 74 g = shI 6 g := fun _ => rfl
theorem sh_a85 : ∀ g, sh 85 g = shI 10 g := fun _ => rfl
theorem sh_a87 : ∀ g, sh 87 g = shI 170 g := fun _ => rfl
theorem sh_a88 : ∀ g, sh 88 g = shI 340 g := fun _ => rfl
theorem sh_a89 : ∀ g, sh 89 g = shZ 2 g := fun _ => rfl
theorem sh_a90 : ∀ g, sh 90 g = shI 3 g := fun _ => rfl
theorem sh_a91 : ∀ g, sh 91 g = shI 6 g := fun _ => rfl
theorem sh_a92 : ∀ g, sh 92 g = shI 6 g := fun _ => rfl
theorem sh_a93 : ∀ g, sh 93 g = shZ 48 g := fun _ => rfl
theorem sh_a94 : ∀ g, sh 94 g = shZ 48 g := fun _ => rfl
theorem sh_a95 : ∀ g, sh 95 g = shI 36 g := fun _ => rfl
theorem sh_a96 : ∀ g, sh 96 g = shZ 64 g := fun _ => rfl
theorem sh_a97 : ∀ g, sh 97 g = shI 10 g := fun _ => rfl
theorem sh_a98 : ∀ g, sh 98 g = shI 150 g := fun _ => rfl
theorem sh_a99 : ∀ g, sh 99 g = shI 74 g := fun _ => rfl
theorem sh_a100 : ∀ g, sh 100 g = shI 5 g := fun _ => rfl
theorem sh_o0 : ∀ g, sh 0 g = .inr (11, fsCls g) := fun _ => rfl
theorem sh_o86 : ∀ g, sh 86 g = .inr (12, fsMod g) := fun _ => rfl
theorem sh_o53 : ∀ g, sh 53 g = .inr (7, fsText g) := fun _ => rfl
theorem sh_o64 : ∀ g, sh 64 g = .inr (1, fsDrv g) := fun _ => rfl
theorem sh_o75 : ∀ g, sh 75 g = .inr (8, fsSig g) := fun _ => rfl
/-- a road stands at r, its rows behind it -/
def Rd (r : Nat) : Prop := r + 12 < 101 ∧ (∀ g, sh r g = .inr (6, fsRoad r g)) ∧ (∀ g, sh (r + 1) g = shI 6 g) ∧ (∀ g, sh (r + 2) g = shI 6 g) ∧ (∀ g, sh (r + 3) g = shI 6 g) ∧ (∀ g, sh (r + 4) g = shI 6 g) ∧ (∀ g, sh (r + 5) g = shI 6 g) ∧ (∀ g, sh (r + 6) g = shI 20 g) ∧ (∀ g, sh (r + 7) g = shI 6 g) ∧ (∀ g, sh (r + 8) g = shI 6 g) ∧ (∀ g, sh (r + 9) g = shI 6 g) ∧ (∀ g, sh (r + 10) g = shI 8 g) ∧ (∀ g, sh (r + 11) g = shZ 8 g) ∧ (∀ g, sh (r + 12) g = shI 8 g)
theorem Rd.l0 {r : Nat} (h : Rd r) : r < 101 := by have := h.1; omega
theorem Rd.l1 {r : Nat} (h : Rd r) : r + 1 < 101 := by have := h.1; omega
theorem Rd.l2 {r : Nat} (h : Rd r) : r + 2 < 101 := by have := h.1; omega
theorem Rd.l3 {r : Nat} (h : Rd r) : r + 3 < 101 := by have := h.1; omega
theorem Rd.l4 {r : Nat} (h : Rd r) : r + 4 < 101 := by have := h.1; omega
theorem Rd.l5 {r : Nat} (h : Rd r) : r + 5 < 101 := by have := h.1; omega
theorem Rd.l6 {r : Nat} (h : Rd r) : r + 6 < 101 := by have := h.1; omega
theorem Rd.l7 {r : Nat} (h : Rd r) : r + 7 < 101 := by have := h.1; omega
theorem Rd.l8 {r : Nat} (h : Rd r) : r + 8 < 101 := by have := h.1; omega
theorem Rd.l9 {r : Nat} (h : Rd r) : r + 9 < 101 := by have := h.1; omega
theorem Rd.l10 {r : Nat} (h : Rd r) : r + 10 < 101 := by have := h.1; omega
theorem Rd.l11 {r : Nat} (h : Rd r) : r + 11 < 101 := by have := h.1; omega
theorem Rd.l12 {r : Nat} (h : Rd r) : r + 12 < 101 := by have := h.1; omega
theorem Rd.o {r : Nat} (h : Rd r) : ∀ g, sh r g = .inr (6, fsRoad r g) := h.2.1
theorem Rd.a1 {r : Nat} (h : Rd r) : ∀ g, sh (r + 1) g = shI 6 g := h.2.2.1
theorem Rd.a2 {r : Nat} (h : Rd r) : ∀ g, sh (r + 2) g = shI 6 g := h.2.2.2.1
theorem Rd.a3 {r : Nat} (h : Rd r) : ∀ g, sh (r + 3) g = shI 6 g := h.2.2.2.2.1
theorem Rd.a4 {r : Nat} (h : Rd r) : ∀ g, sh (r + 4) g = shI 6 g := h.2.2.2.2.2.1
theorem Rd.a5 {r : Nat} (h : Rd r) : ∀ g, sh (r + 5) g = shI 6 g := h.2.2.2.2.2.2.1
theorem Rd.a6 {r : Nat} (h : Rd r) : ∀ g, sh (r + 6) g = shI 20 g := h.2.2.2.2.2.2.2.1
theorem Rd.a7 {r : Nat} (h : Rd r) : ∀ g, sh (r + 7) g = shI 6 g := h.2.2.2.2.2.2.2.2.1
theorem Rd.a8 {r : Nat} (h : Rd r) : ∀ g, sh (r + 8) g = shI 6 g := h.2.2.2.2.2.2.2.2.2.1
theorem Rd.a9 {r : Nat} (h : Rd r) : ∀ g, sh (r + 9) g = shI 6 g := h.2.2.2.2.2.2.2.2.2.2.1
theorem Rd.a10 {r : Nat} (h : Rd r) : ∀ g, sh (r + 10) g = shI 8 g := h.2.2.2.2.2.2.2.2.2.2.2.1
theorem Rd.a11 {r : Nat} (h : Rd r) : ∀ g, sh (r + 11) g = shZ 8 g := h.2.2.2.2.2.2.2.2.2.2.2.2.1
theorem Rd.a12 {r : Nat} (h : Rd r) : ∀ g, sh (r + 12) g = shI 8 g := h.2.2.2.2.2.2.2.2.2.2.2.2.2
theorem rd1 : Rd 1 := ⟨by decide, fun _ => rfl, fun _ => rfl, fun _ => rfl, fun _ => rfl, fun _ => rfl, fun _ => rfl, fun _ => rfl, fun _ => rfl, fun _ => rfl, fun _ => rfl, fun _ => rfl, fun _ => rfl, fun _ => rfl⟩
theorem rd14 : Rd 14 := ⟨by decide, fun _ => rfl, fun _ => rfl, fun _ => rfl, fun _ => rfl, fun _ => rfl, fun _ => rfl, fun _ => rfl, fun _ => rfl, fun _ => rfl, fun _ => rfl, fun _ => rfl, fun _ => rfl, fun _ => rfl⟩
theorem rd27 : Rd 27 := ⟨by decide, fun _ => rfl, fun _ => rfl, fun _ => rfl, fun _ => rfl, fun _ => rfl, fun _ => rfl, fun _ => rfl, fun _ => rfl, fun _ => rfl, fun _ => rfl, fun _ => rfl, fun _ => rfl, fun _ => rfl⟩
theorem rd40 : Rd 40 := ⟨by decide, fun _ => rfl, fun _ => rfl, fun _ => rfl, fun _ => rfl, fun _ => rfl, fun _ => rfl, fun _ => rfl, fun _ => rfl, fun _ => rfl, fun _ => rfl, fun _ => rfl, fun _ => rfl, fun _ => rfl⟩
/-- limits stand at l, the kinds and the two rows behind them -/
def Lm (l : Nat) : Prop := l + 8 < 101 ∧ (∀ g, sh l g = .inr (4, fsLim l g)) ∧ (∀ g, sh (l + 1) g = .inr (10, fs0 g)) ∧ (∀ g, sh (l + 2) g = .inr (3, fs0 g)) ∧ (∀ g, sh (l + 3) g = .inr (5, fs0 g)) ∧ (∀ g, sh (l + 4) g = .inr (9, fs0 g)) ∧ (∀ g, sh (l + 5) g = .inr (2, fs0 g)) ∧ (∀ g, sh (l + 6) g = .inr (0, fs0 g)) ∧ (∀ g, sh (l + 7) g = shI 6 g) ∧ (∀ g, sh (l + 8) g = shI 6 g)
theorem Lm.l0 {l : Nat} (h : Lm l) : l < 101 := by have := h.1; omega
theorem Lm.l1 {l : Nat} (h : Lm l) : l + 1 < 101 := by have := h.1; omega
theorem Lm.l2 {l : Nat} (h : Lm l) : l + 2 < 101 := by have := h.1; omega
theorem Lm.l3 {l : Nat} (h : Lm l) : l + 3 < 101 := by have := h.1; omega
theorem Lm.l4 {l : Nat} (h : Lm l) : l + 4 < 101 := by have := h.1; omega
theorem Lm.l5 {l : Nat} (h : Lm l) : l + 5 < 101 := by have := h.1; omega
theorem Lm.l6 {l : Nat} (h : Lm l) : l + 6 < 101 := by have := h.1; omega
theorem Lm.l7 {l : Nat} (h : Lm l) : l + 7 < 101 := by have := h.1; omega
theorem Lm.l8 {l : Nat} (h : Lm l) : l + 8 < 101 := by have := h.1; omega
theorem Lm.o {l : Nat} (h : Lm l) : ∀ g, sh l g = .inr (4, fsLim l g) := h.2.1
theorem Lm.a1 {l : Nat} (h : Lm l) : ∀ g, sh (l + 1) g = .inr (10, fs0 g) := h.2.2.1
theorem Lm.a2 {l : Nat} (h : Lm l) : ∀ g, sh (l + 2) g = .inr (3, fs0 g) := h.2.2.2.1
theorem Lm.a3 {l : Nat} (h : Lm l) : ∀ g, sh (l + 3) g = .inr (5, fs0 g) := h.2.2.2.2.1
theorem Lm.a4 {l : Nat} (h : Lm l) : ∀ g, sh (l + 4) g = .inr (9, fs0 g) := h.2.2.2.2.2.1
theorem Lm.a5 {l : Nat} (h : Lm l) : ∀ g, sh (l + 5) g = .inr (2, fs0 g) := h.2.2.2.2.2.2.1
theorem Lm.a6 {l : Nat} (h : Lm l) : ∀ g, sh (l + 6) g = .inr (0, fs0 g) := h.2.2.2.2.2.2.2.1
theorem Lm.a7 {l : Nat} (h : Lm l) : ∀ g, sh (l + 7) g = shI 6 g := h.2.2.2.2.2.2.2.2.1
theorem Lm.a8 {l : Nat} (h : Lm l) : ∀ g, sh (l + 8) g = shI 6 g := h.2.2.2.2.2.2.2.2.2
theorem lm55 : Lm 55 := ⟨by decide, fun _ => rfl, fun _ => rfl, fun _ => rfl, fun _ => rfl, fun _ => rfl, fun _ => rfl, fun _ => rfl, fun _ => rfl, fun _ => rfl⟩
theorem lm65 : Lm 65 := ⟨by decide, fun _ => rfl, fun _ => rfl, fun _ => rfl, fun _ => rfl, fun _ => rfl, fun _ => rfl, fun _ => rfl, fun _ => rfl, fun _ => rfl⟩
theorem lm76 : Lm 76 := ⟨by decide, fun _ => rfl, fun _ => rfl, fun _ => rfl, fun _ => rfl, fun _ => rfl, fun _ => rfl, fun _ => rfl, fun _ => rfl, fun _ => rfl⟩
theorem pn_X0 : plainName RX0 = true := by decide +kernel
theorem pn_X1 : plainName RX1 = true := by decide +kernel
theorem pn_X10 : plainName RX10 = true := by decide +kernel
theorem pn_X11 : plainName RX11 = true := by decide +kernel
theorem pn_X12 : plainName RX12 = true := by decide +kernel
theorem pn_X2 : plainName RX2 = true := by decide +kernel
theorem pn_X3 : plainName RX3 = true := by decide +kernel
theorem pn_X4 : plainName RX4 = true := by decide +kernel
theorem pn_X5 : plainName RX5 = true := by decide +kernel
theorem pn_X6 : plainName RX6 = true := by decide +kernel
theorem pn_X7 : plainName RX7 = true := by decide +kernel
theorem pn_X8 : plainName RX8 = true := by decide +kernel
theorem pn_X9 : plainName RX9 = true := by decide +kernel
theorem pf_J0_charAt_5068e : plainFor M_J0_charAt_5068e.1 = true := by decide +kernel
theorem pf_J0_checkIndex_df160 : plainFor M_J0_checkIndex_df160.1 = true := by decide +kernel
theorem pf_J0_coder_7d493 : plainFor M_J0_coder_7d493.1 = true := by decide +kernel
theorem pf_J0_isLatin1_aae02 : plainFor M_J0_isLatin1_aae02.1 = true := by decide +kernel
theorem pf_J0_length_8abf5 : plainFor M_J0_length_8abf5.1 = true := by decide +kernel
theorem pf_J13_bitCount_95d88 : plainFor M_J13_bitCount_95d88.1 = true := by decide +kernel
theorem pf_J1_charAt_3b067 : plainFor M_J1_charAt_3b067.1 = true := by decide +kernel
theorem pf_J6_bitCount_0f7a4 : plainFor M_J6_bitCount_0f7a4.1 = true := by decide +kernel
theorem pf_J9_abs_0f7a4 : plainFor M_J9_abs_0f7a4.1 = true := by decide +kernel
theorem pf_J9_max_7cf53 : plainFor M_J9_max_7cf53.1 = true := by decide +kernel
theorem pf_J9_min_7cf53 : plainFor M_J9_min_7cf53.1 = true := by decide +kernel
