/-! ===== longs as bits (the wb_ rows began as rows of the kit, BITS) ===== -/
theorem wb_tb (n : Nat) : (lN n).toBitVec = BitVec.ofNat 64 n := rfl
theorem wb_inj {a b : Int64} (h : a.toBitVec = b.toBitVec) : a = b := Int64.toBitVec_inj.mp h
theorem wb_tn {n : Nat} (h : n < 2 ^ 64) : (lN n).toBitVec.toNat = n := by rw [wb_tb, BitVec.toNat_ofNat, Nat.mod_eq_of_lt h]
theorem wb_of (x : Int64) : ∃ n, n < 2 ^ 64 ∧ x = lN n := ⟨x.toBitVec.toNat, x.toBitVec.isLt, wb_inj (by rw [wb_tb]; simp)⟩
theorem wb_of32 (x : Int32) : ∃ n, n < 2 ^ 32 ∧ x = nI n := ⟨x.toBitVec.toNat, x.toBitVec.isLt, Int32.toBitVec_inj.mp (by show _ = BitVec.ofNat 32 _; simp)⟩
theorem wb_c : ∀ k, k < 64 → ((nI k).toInt64 &&& 63) = lN k := by decide +kernel
theorem wb_cu : ∀ k, k < 64 → ((nI k).toInt64.toUInt64 &&& Int64.toUInt64 63) = UInt64.ofNat k := by decide +kernel
theorem wb_sm : ∀ k, k < 64 → (BitVec.ofNat 64 k).smod 64 = BitVec.ofNat 64 k := by decide +kernel
theorem wb_pw {a b : Nat} (h : a ≤ b) : 2 ^ b = 2 ^ a * 2 ^ (b - a) := by rw [← Nat.pow_add]; congr 1; omega
theorem wb_lt2 {a b : Nat} (h : a < b) : 2 ^ a < 2 ^ b := Nat.pow_lt_pow_right (by decide) h
theorem wb_mod (n : Nat) : lN n = lN (n % 2 ^ 64) := wb_inj (by rw [wb_tb, wb_tb]; apply BitVec.eq_of_toNat_eq; rw [BitVec.toNat_ofNat, BitVec.toNat_ofNat, Nat.mod_mod])
theorem wb_shr {n k : Nat} (hn : n < 2 ^ 64) (hk : k < 64) : ((lN n).toUInt64 >>> ((nI k).toInt64.toUInt64 &&& Int64.toUInt64 63)).toInt64 = lN (n / 2 ^ k) := by
  rw [wb_cu k hk]
  apply wb_inj
  apply BitVec.eq_of_toNat_eq
  show ((lN n).toUInt64 >>> UInt64.ofNat k).toNat = (BitVec.ofNat 64 _).toNat
  have h1 : (UInt64.ofNat k).toNat = k := by
    show (BitVec.ofNat 64 k).toNat = k
    rw [BitVec.toNat_ofNat, Nat.mod_eq_of_lt (by omega)]
  have h2 : (lN n).toUInt64.toNat = n := wb_tn hn
  rw [UInt64.toNat_shiftRight, h1, h2, Nat.mod_eq_of_lt hk, Nat.shiftRight_eq_div_pow, BitVec.toNat_ofNat, Nat.mod_eq_of_lt (Nat.lt_of_le_of_lt (Nat.div_le_self _ _) hn)]
theorem wb_shl (n : Nat) {k : Nat} (hk : k < 64) : lN n <<< ((nI k).toInt64 &&& 63) = lN (n * 2 ^ k) := by
  rw [wb_c k hk]
  apply wb_inj
  rw [Int64.toBitVec_shiftLeft, wb_tb, wb_tb, wb_tb, wb_sm k hk]
  apply BitVec.eq_of_toNat_eq
  rw [BitVec.shiftLeft_eq', BitVec.toNat_shiftLeft, BitVec.toNat_ofNat, BitVec.toNat_ofNat, BitVec.toNat_ofNat, Nat.mod_eq_of_lt (show k < 2 ^ 64 by omega), Nat.shiftLeft_eq, Nat.mul_mod, Nat.mod_mod, ← Nat.mul_mod]
theorem wb_and {a b : Nat} (ha : a < 2 ^ 64) (hb : b < 2 ^ 64) : lN a &&& lN b = lN (a &&& b) := by
  apply wb_inj
  rw [Int64.toBitVec_and, wb_tb, wb_tb, wb_tb]
  apply BitVec.eq_of_toNat_eq
  rw [BitVec.toNat_and, BitVec.toNat_ofNat, BitVec.toNat_ofNat, BitVec.toNat_ofNat, Nat.mod_eq_of_lt ha, Nat.mod_eq_of_lt hb, Nat.mod_eq_of_lt (Nat.and_lt_two_pow _ hb)]
theorem wb_or {a b : Nat} (ha : a < 2 ^ 64) (hb : b < 2 ^ 64) : lN a ||| lN b = lN (a ||| b) := by
  apply wb_inj
  rw [Int64.toBitVec_or, wb_tb, wb_tb, wb_tb]
  apply BitVec.eq_of_toNat_eq
  rw [BitVec.toNat_or, BitVec.toNat_ofNat, BitVec.toNat_ofNat, BitVec.toNat_ofNat, Nat.mod_eq_of_lt ha, Nat.mod_eq_of_lt hb, Nat.mod_eq_of_lt (Nat.or_lt_two_pow ha hb)]
theorem lI_nat (n : Nat) : lI (n : Int) = lN n := Int64.ofInt_eq_ofNat
theorem wb_sbit {n k : Nat} (hk : k < 64) : (lN n >>> ((nI k).toInt64 &&& 63)) &&& 1 = lN (n / 2 ^ k % 2) := by
  rw [wb_c k hk]
  apply wb_inj
  rw [Int64.toBitVec_and, Int64.toBitVec_shiftRight, wb_tb, wb_tb, wb_tb, wb_sm k hk]
  apply BitVec.eq_of_getLsbD_eq
  intro j hj
  rw [BitVec.getLsbD_ofNat 64 (n / 2 ^ k % 2) j, show (1 : Int64).toBitVec = 1#64 from rfl, BitVec.getLsbD_and, BitVec.getLsbD_sshiftRight']
  by_cases e : j = 0
  · subst e
    have h1 : (BitVec.ofNat 64 k).toNat = k := by rw [BitVec.toNat_ofNat, Nat.mod_eq_of_lt (by omega)]
    rw [h1, Nat.add_zero, if_pos hk, BitVec.getLsbD_ofNat 64 n k, Nat.testBit_eq_decide_div_mod_eq, Nat.testBit_eq_decide_div_mod_eq]
    rcases Nat.mod_two_eq_zero_or_one (n / 2 ^ k) with h2 | h2 <;> rw [h2] <;> simp [hk]
  · have h2 : (1#64).getLsbD j = false := by rw [BitVec.getLsbD_one]; simp [e]
    rw [h2, Bool.and_false, Nat.testBit_eq_decide_div_mod_eq]
    have h3 : n / 2 ^ k % 2 / 2 ^ j = 0 := by
      apply Nat.div_eq_of_lt
      have h4 : 2 ^ 1 ≤ 2 ^ j := Nat.pow_le_pow_right (by decide) (by omega)
      omega
    rw [h3]
    simp
theorem or_bit {F i : Nat} (hF : F < 2 ^ i) (j : Nat) : (F ||| 2 ^ i) / 2 ^ j % 2 = 1 ↔ j = i ∨ F / 2 ^ j % 2 = 1 := by
  have h := Nat.testBit_or F (2 ^ i) j
  rw [Nat.testBit_eq_decide_div_mod_eq, Nat.testBit_eq_decide_div_mod_eq, Nat.testBit_two_pow] at h
  have h2 : decide ((F ||| 2 ^ i) / 2 ^ j % 2 = 1) = true ↔ decide (F / 2 ^ j % 2 = 1) = true ∨ decide (i = j) = true := by rw [h, Bool.or_eq_true]
  simp only [decide_eq_true_eq] at h2
  rw [h2]
  constructor
  · rintro (h3 | h3)
    · exact Or.inr h3
    · exact Or.inl h3.symm
  · rintro (h3 | h3)
    · exact Or.inr h3.symm
    · exact Or.inl h3
/-! how many bits of a long: byte by byte -/
def hor (a b c d e f g h : Nat) : Nat := a + 256 * (b + 256 * (c + 256 * (d + 256 * (e + 256 * (f + 256 * (g + 256 * h))))))
theorem land_split {a b A B : Nat} (ha : a < 256) (hb : b < 256) : (a + 256 * A) &&& (b + 256 * B) = (a &&& b) + 256 * (A &&& B) := by
  apply Nat.eq_of_testBit_eq
  intro j
  have h1 : (a &&& b) < 2 ^ 8 := Nat.and_lt_two_pow _ hb
  rw [Nat.testBit_and, show a + 256 * A = 2 ^ 8 * A + a by omega, show b + 256 * B = 2 ^ 8 * B + b by omega, show (a &&& b) + 256 * (A &&& B) = 2 ^ 8 * (A &&& B) + (a &&& b) by omega, Nat.testBit_two_pow_mul_add A (i := 8) ha, Nat.testBit_two_pow_mul_add B (i := 8) hb, Nat.testBit_two_pow_mul_add (A &&& B) (i := 8) h1]
  split
  · rw [Nat.testBit_and]
  · rw [Nat.testBit_and]
theorem land_hor {a b c d e f g h m : Nat} (ha : a < 256) (hb : b < 256) (hc : c < 256) (hd : d < 256) (he : e < 256) (hf : f < 256) (hg : g < 256) (_hh : h < 256) (hm : m < 256) : hor a b c d e f g h &&& hor m m m m m m m m = hor (a &&& m) (b &&& m) (c &&& m) (d &&& m) (e &&& m) (f &&& m) (g &&& m) (h &&& m) := by
  unfold hor
  rw [land_split ha hm, land_split hb hm, land_split hc hm, land_split hd hm, land_split he hm, land_split hf hm, land_split hg hm]
def by_1 (b : Nat) : Nat := b - (b / 2 &&& 85)
def by_2 (b : Nat) : Nat := (b &&& 51) + (b / 4 &&& 51)
def by_3 (b : Nat) : Nat := (b + b / 16) &&& 15
def by_p (b : Nat) : Nat := b % 2 + b / 2 % 2 + b / 4 % 2 + b / 8 % 2 + b / 16 % 2 + b / 32 % 2 + b / 64 % 2 + b / 128 % 2
theorem by_m1 : ∀ b, b < 256 → ∀ u, u < 2 → (b / 2 + 128 * u) &&& 85 = b / 2 &&& 85 ∧ (b / 2 &&& 85) ≤ b ∧ by_1 b < 256 := by decide +kernel
theorem by_m2 : ∀ b, b < 256 → ∀ u, u < 4 → (b / 4 + 64 * u) &&& 51 = b / 4 &&& 51 ∧ by_2 b < 256 := by decide +kernel
theorem by_lo : ∀ b, b < 256 → by_2 (by_1 b) % 16 ≤ 4 ∧ by_2 (by_1 b) / 16 ≤ 4 ∧ by_3 (by_2 (by_1 b)) = by_p b ∧ by_p b ≤ 8 := by decide +kernel
theorem by_m3 : ∀ c, c < 80 → c % 16 ≤ 4 → ∀ u, u < 5 → (c + c / 16 + 16 * u) &&& 15 = (c + c / 16) &&& 15 ∧ c + c / 16 + 16 * u < 256 := by decide +kernel
def nc_1 (n : Nat) : Nat := n - (n / 2 &&& 6148914691236517205)
def nc_2 (n : Nat) : Nat := (n &&& 3689348814741910323) + (n / 4 &&& 3689348814741910323)
def nc_3 (n : Nat) : Nat := (n + n / 16) &&& 1085102592571150095
def nc_4 (n : Nat) : Nat := n + n / 256
def nc_5 (n : Nat) : Nat := n + n / 65536
def nc_6 (n : Nat) : Nat := n + n / 4294967296
theorem hor_1 {a b c d e f g h : Nat} (ha : a < 256) (hb : b < 256) (hc : c < 256) (hd : d < 256) (he : e < 256) (hf : f < 256) (hg : g < 256) (hh : h < 256) : nc_1 (hor a b c d e f g h) = hor (by_1 a) (by_1 b) (by_1 c) (by_1 d) (by_1 e) (by_1 f) (by_1 g) (by_1 h) := by
  have q : hor a b c d e f g h / 2 = hor (a / 2 + 128 * (b % 2)) (b / 2 + 128 * (c % 2)) (c / 2 + 128 * (d % 2)) (d / 2 + 128 * (e % 2)) (e / 2 + 128 * (f % 2)) (f / 2 + 128 * (g % 2)) (g / 2 + 128 * (h % 2)) (h / 2 + 128 * 0) := by unfold hor; omega
  have m1 := by_m1 a ha (b % 2) (by omega)
  have m2 := by_m1 b hb (c % 2) (by omega)
  have m3 := by_m1 c hc (d % 2) (by omega)
  have m4 := by_m1 d hd (e % 2) (by omega)
  have m5 := by_m1 e he (f % 2) (by omega)
  have m6 := by_m1 f hf (g % 2) (by omega)
  have m7 := by_m1 g hg (h % 2) (by omega)
  have m8 := by_m1 h hh 0 (by omega)
  unfold nc_1
  rw [q, show (6148914691236517205 : Nat) = hor 85 85 85 85 85 85 85 85 from rfl, land_hor (by omega) (by omega) (by omega) (by omega) (by omega) (by omega) (by omega) (by omega) (by omega), m1.1, m2.1, m3.1, m4.1, m5.1, m6.1, m7.1, m8.1]
  unfold by_1 at *
  unfold hor
  omega
theorem hor_2 {a b c d e f g h : Nat} (ha : a < 256) (hb : b < 256) (hc : c < 256) (hd : d < 256) (he : e < 256) (hf : f < 256) (hg : g < 256) (hh : h < 256) : nc_2 (hor a b c d e f g h) = hor (by_2 a) (by_2 b) (by_2 c) (by_2 d) (by_2 e) (by_2 f) (by_2 g) (by_2 h) := by
  have q : hor a b c d e f g h / 4 = hor (a / 4 + 64 * (b % 4)) (b / 4 + 64 * (c % 4)) (c / 4 + 64 * (d % 4)) (d / 4 + 64 * (e % 4)) (e / 4 + 64 * (f % 4)) (f / 4 + 64 * (g % 4)) (g / 4 + 64 * (h % 4)) (h / 4 + 64 * 0) := by unfold hor; omega
  have m1 := by_m2 a ha (b % 4) (by omega)
  have m2 := by_m2 b hb (c % 4) (by omega)
  have m3 := by_m2 c hc (d % 4) (by omega)
  have m4 := by_m2 d hd (e % 4) (by omega)
  have m5 := by_m2 e he (f % 4) (by omega)
  have m6 := by_m2 f hf (g % 4) (by omega)
  have m7 := by_m2 g hg (h % 4) (by omega)
  have m8 := by_m2 h hh 0 (by omega)
  unfold nc_2
  rw [q, show (3689348814741910323 : Nat) = hor 51 51 51 51 51 51 51 51 from rfl, land_hor ha hb hc hd he hf hg hh (by omega), land_hor (by omega) (by omega) (by omega) (by omega) (by omega) (by omega) (by omega) (by omega) (by omega), m1.1, m2.1, m3.1, m4.1, m5.1, m6.1, m7.1, m8.1]
  unfold by_2 hor
  omega
theorem hor_3 {a b c d e f g h : Nat} (ha : a < 80 ∧ a % 16 ≤ 4) (hb : b < 80 ∧ b % 16 ≤ 4) (hc : c < 80 ∧ c % 16 ≤ 4) (hd : d < 80 ∧ d % 16 ≤ 4) (he : e < 80 ∧ e % 16 ≤ 4) (hf : f < 80 ∧ f % 16 ≤ 4) (hg : g < 80 ∧ g % 16 ≤ 4) (hh : h < 80 ∧ h % 16 ≤ 4) : nc_3 (hor a b c d e f g h) = hor (by_3 a) (by_3 b) (by_3 c) (by_3 d) (by_3 e) (by_3 f) (by_3 g) (by_3 h) := by
  have q : hor a b c d e f g h + hor a b c d e f g h / 16 = hor (a + a / 16 + 16 * (b % 16)) (b + b / 16 + 16 * (c % 16)) (c + c / 16 + 16 * (d % 16)) (d + d / 16 + 16 * (e % 16)) (e + e / 16 + 16 * (f % 16)) (f + f / 16 + 16 * (g % 16)) (g + g / 16 + 16 * (h % 16)) (h + h / 16 + 16 * 0) := by unfold hor; omega
  have m1 := by_m3 a ha.1 ha.2 (b % 16) (by omega)
  have m2 := by_m3 b hb.1 hb.2 (c % 16) (by omega)
  have m3 := by_m3 c hc.1 hc.2 (d % 16) (by omega)
  have m4 := by_m3 d hd.1 hd.2 (e % 16) (by omega)
  have m5 := by_m3 e he.1 he.2 (f % 16) (by omega)
  have m6 := by_m3 f hf.1 hf.2 (g % 16) (by omega)
  have m7 := by_m3 g hg.1 hg.2 (h % 16) (by omega)
  have m8 := by_m3 h hh.1 hh.2 0 (by omega)
  unfold nc_3
  rw [q, show (1085102592571150095 : Nat) = hor 15 15 15 15 15 15 15 15 from rfl, land_hor m1.2 m2.2 m3.2 m4.2 m5.2 m6.2 m7.2 m8.2 (by omega), m1.1, m2.1, m3.1, m4.1, m5.1, m6.1, m7.1, m8.1]
  rfl
theorem hor_4 {a b c d e f g h : Nat} (ha : a ≤ 8) (hb : b ≤ 8) (hc : c ≤ 8) (hd : d ≤ 8) (he : e ≤ 8) (hf : f ≤ 8) (hg : g ≤ 8) (hh : h ≤ 8) : nc_6 (nc_5 (nc_4 (hor a b c d e f g h))) % 128 = a + b + c + d + e + f + g + h ∧ nc_6 (nc_5 (nc_4 (hor a b c d e f g h))) < 2 ^ 64 := by
  have e4 : nc_4 (hor a b c d e f g h) = hor (a + b) (b + c) (c + d) (d + e) (e + f) (f + g) (g + h) h := by unfold nc_4 hor; omega
  have e5 : nc_5 (hor (a + b) (b + c) (c + d) (d + e) (e + f) (f + g) (g + h) h) = hor (a + b + (c + d)) (b + c + (d + e)) (c + d + (e + f)) (d + e + (f + g)) (e + f + (g + h)) (f + g + h) (g + h) h := by unfold nc_5 hor; omega
  have e6 : nc_6 (hor (a + b + (c + d)) (b + c + (d + e)) (c + d + (e + f)) (d + e + (f + g)) (e + f + (g + h)) (f + g + h) (g + h) h) = hor (a + b + (c + d) + (e + f + (g + h))) (b + c + (d + e) + (f + g + h)) (c + d + (e + f) + (g + h)) (d + e + (f + g) + h) (e + f + (g + h)) (f + g + h) (g + h) h := by unfold nc_6 hor; omega
  rw [e4, e5, e6]
  unfold hor
  constructor <;> omega
def q_p64 (F : Nat) : Nat → Nat
  | 0 => 0
  | i + 1 => q_p64 F i + F / 2 ^ i % 2
theorem q_p64_8 (F k : Nat) : q_p64 F (k + 8) = q_p64 F k + by_p (F / 2 ^ k % 256) := by
  have h : ∀ j, j < 8 → F / 2 ^ (k + j) % 2 = F / 2 ^ k % 256 / 2 ^ j % 2 := by
    intro j hj
    rw [Nat.pow_add, ← Nat.div_div_eq_div_mul]
    generalize F / 2 ^ k = x
    match j, hj with
    | 0, _ => omega
    | 1, _ => omega
    | 2, _ => omega
    | 3, _ => omega
    | 4, _ => omega
    | 5, _ => omega
    | 6, _ => omega
    | 7, _ => omega
  show q_p64 F k + F / 2 ^ k % 2 + F / 2 ^ (k + 1) % 2 + F / 2 ^ (k + 2) % 2 + F / 2 ^ (k + 3) % 2 + F / 2 ^ (k + 4) % 2 + F / 2 ^ (k + 5) % 2 + F / 2 ^ (k + 6) % 2 + F / 2 ^ (k + 7) % 2 = _
  rw [h 1 (by omega), h 2 (by omega), h 3 (by omega), h 4 (by omega), h 5 (by omega), h 6 (by omega), h 7 (by omega)]
  unfold by_p
  omega
theorem nc_all {F : Nat} (hF : F < 2 ^ 64) : nc_6 (nc_5 (nc_4 (nc_3 (nc_2 (nc_1 F))))) % 128 = q_p64 F 64 ∧ nc_6 (nc_5 (nc_4 (nc_3 (nc_2 (nc_1 F))))) < 2 ^ 64 := by
  have e : F = hor (F / 2 ^ 0 % 256) (F / 2 ^ 8 % 256) (F / 2 ^ 16 % 256) (F / 2 ^ 24 % 256) (F / 2 ^ 32 % 256) (F / 2 ^ 40 % 256) (F / 2 ^ 48 % 256) (F / 2 ^ 56 % 256) := by unfold hor; omega
  have ep : q_p64 F 64 = by_p (F / 2 ^ 0 % 256) + by_p (F / 2 ^ 8 % 256) + by_p (F / 2 ^ 16 % 256) + by_p (F / 2 ^ 24 % 256) + by_p (F / 2 ^ 32 % 256) + by_p (F / 2 ^ 40 % 256) + by_p (F / 2 ^ 48 % 256) + by_p (F / 2 ^ 56 % 256) := by
    rw [q_p64_8 F 56, q_p64_8 F 48, q_p64_8 F 40, q_p64_8 F 32, q_p64_8 F 24, q_p64_8 F 16, q_p64_8 F 8, q_p64_8 F 0]
    show 0 + _ + _ + _ + _ + _ + _ + _ + _ = _
    omega
  rw [ep]
  generalize F / 2 ^ 0 % 256 = a at *
  have l0 := by_lo (F / 2 ^ 8 % 256) (by omega)
  have hb : F / 2 ^ 8 % 256 < 256 := by omega
  have hc : F / 2 ^ 16 % 256 < 256 := by omega
  have hd : F / 2 ^ 24 % 256 < 256 := by omega
  have he : F / 2 ^ 32 % 256 < 256 := by omega
  have hf : F / 2 ^ 40 % 256 < 256 := by omega
  have hg : F / 2 ^ 48 % 256 < 256 := by omega
  have hh : F / 2 ^ 56 % 256 < 256 := by omega
  have ha : a < 256 := by unfold hor at e; omega
  generalize F / 2 ^ 8 % 256 = b at *
  generalize F / 2 ^ 16 % 256 = c at *
  generalize F / 2 ^ 24 % 256 = d at *
  generalize F / 2 ^ 32 % 256 = e' at *
  generalize F / 2 ^ 40 % 256 = f at *
  generalize F / 2 ^ 48 % 256 = g at *
  generalize F / 2 ^ 56 % 256 = h at *
  have la := by_lo a ha
  have lb := by_lo b hb
  have lc := by_lo c hc
  have ld := by_lo d hd
  have le := by_lo e' he
  have lf := by_lo f hf
  have lg := by_lo g hg
  have lh := by_lo h hh
  rw [e, hor_1 ha hb hc hd he hf hg hh, hor_2 (by_m1 a ha 0 (by omega)).2.2 (by_m1 b hb 0 (by omega)).2.2 (by_m1 c hc 0 (by omega)).2.2 (by_m1 d hd 0 (by omega)).2.2 (by_m1 e' he 0 (by omega)).2.2 (by_m1 f hf 0 (by omega)).2.2 (by_m1 g hg 0 (by omega)).2.2 (by_m1 h hh 0 (by omega)).2.2,
    hor_3 ⟨by omega, la.1⟩ ⟨by omega, lb.1⟩ ⟨by omega, lc.1⟩ ⟨by omega, ld.1⟩ ⟨by omega, le.1⟩ ⟨by omega, lf.1⟩ ⟨by omega, lg.1⟩ ⟨by omega, lh.1⟩, la.2.2.1, lb.2.2.1, lc.2.2.1, ld.2.2.1, le.2.2.1, lf.2.2.1, lg.2.2.1, lh.2.2.1]
  exact hor_4 la.2.2.2 lb.2.2.2 lc.2.2.2 ld.2.2.2 le.2.2.2 lf.2.2.2 lg.2.2.2 lh.2.2.2
theorem lN_subN {a b : Nat} (h : b ≤ a) : lN a - lN b = lN (a - b) := lN_sub h
theorem lN_i2 (n : Nat) : (lI (n : Int)).toInt32 = iI (n : Int) := by rw [lI_nat, iI_nat, lN_i]
theorem and127 (n : Nat) : iI (n : Int) &&& iI 127 = iI ((n % 128 : Nat) : Int) := by
  rw [show (127 : Int) = ((127 : Nat) : Int) from rfl, iI_and, show (127 : Nat) = 2 ^ 7 - 1 from rfl, Nat.and_two_pow_sub_one_eq_mod]
theorem ll_lt {F : Nat} (h : F < 2 ^ 63) : R64 (F : Int) := ⟨by omega, by omega⟩
section BitRows
variable {M : MI} {pc : Nat} {L : List (Option Value)} {st : List Value} {G : Mem} {Post : Option Value → Mem → Prop}
theorem k_lushr {x y : Int} (n k : Nat) (hd : decode M.2.1 pc = .ok (.lushr, 1)) (hx : x = n) (hy : y = k) (hn : n < 2 ^ 64) (hk : k < 64)
    (kk : RP M (pc + 1) L (.long (lI ((n / 2 ^ k : Nat) : Int)) :: st) G Post) : RP M pc L (.int (iI y) :: .long (lI x) :: st) G Post := kk.step (fun o g h => r_lushr hd (by rw [hx, hy, lI_nat, iI_nat, wb_shr hn hk, ← lI_nat]; exact h))
theorem k_land {x y : Int} (a b : Nat) (hd : decode M.2.1 pc = .ok (.land, 1)) (hx : x = a) (hy : y = b) (ha : a < 2 ^ 64) (hb : b < 2 ^ 64)
    (kk : RP M (pc + 1) L (.long (lI ((a &&& b : Nat) : Int)) :: st) G Post) : RP M pc L (.long (lI y) :: .long (lI x) :: st) G Post := kk.step (fun o g h => r_land hd (by rw [hx, hy, lI_nat, lI_nat, wb_and ha hb, ← lI_nat]; exact h))
theorem k_lor {x y : Int} (a b : Nat) (hd : decode M.2.1 pc = .ok (.lor, 1)) (hx : x = a) (hy : y = b) (ha : a < 2 ^ 64) (hb : b < 2 ^ 64)
    (kk : RP M (pc + 1) L (.long (lI ((a ||| b : Nat) : Int)) :: st) G Post) : RP M pc L (.long (lI y) :: .long (lI x) :: st) G Post := kk.step (fun o g h => r_lor hd (by rw [hx, hy, lI_nat, lI_nat, wb_or ha hb, ← lI_nat]; exact h))
theorem k_lshl1 {y : Int} (k : Nat) (hd : decode M.2.1 pc = .ok (.lshl, 1)) (hy : y = k) (hk : k < 64)
    (kk : RP M (pc + 1) L (.long (lI ((2 ^ k : Nat) : Int)) :: st) G Post) : RP M pc L (.int (iI y) :: .long (lI 1) :: st) G Post := kk.step (fun o g h => r_lshl hd (by rw [hy, iI_nat, show lI 1 = lN 1 from rfl, wb_shl 1 hk, Nat.one_mul, ← lI_nat]; exact h))
theorem k_l2i {x : Int} (n : Nat) (hd : decode M.2.1 pc = .ok (.l2i, 1)) (hx : x = n)
    (kk : RP M (pc + 1) L (.int (iI (n : Int)) :: st) G Post) : RP M pc L (.long (lI x) :: st) G Post := kk.step (fun o g h => r_l2i hd (by rw [hx, lN_i2]; exact h))
theorem k_iand127 {x : Int} (n : Nat) (hd : decode M.2.1 pc = .ok (.iand, 1)) (hx : x = n)
    (kk : RP M (pc + 1) L (.int (iI ((n % 128 : Nat) : Int)) :: st) G Post) : RP M pc L (.int (iI 127) :: .int (iI x) :: st) G Post := kk.step (fun o g h => r_iand hd (by rw [hx, and127]; exact h))
end BitRows
theorem by_max : ∀ b, b < 256 → by_1 b < 256 := fun b h => (by_m1 b h 0 (by omega)).2.2
/-- every stage stays within a long -/
theorem nc_b {F : Nat} (hF : F < 2 ^ 64) : nc_1 F < 2 ^ 64 ∧ nc_2 (nc_1 F) < 2 ^ 64 ∧ nc_3 (nc_2 (nc_1 F)) < 2 ^ 61 ∧ (nc_2 (nc_1 F) + nc_2 (nc_1 F) / 16) < 2 ^ 64 := by
  have e : F = hor (F / 2 ^ 0 % 256) (F / 2 ^ 8 % 256) (F / 2 ^ 16 % 256) (F / 2 ^ 24 % 256) (F / 2 ^ 32 % 256) (F / 2 ^ 40 % 256) (F / 2 ^ 48 % 256) (F / 2 ^ 56 % 256) := by unfold hor; omega
  have h3 : nc_3 (nc_2 (nc_1 F)) < 2 ^ 61 := by
    have : nc_3 (nc_2 (nc_1 F)) ≤ 1085102592571150095 := Nat.and_le_right
    omega
  have la : ∀ x, by_2 (by_1 (x % 256)) ≤ 68 ∧ by_1 (x % 256) < 256 := by
    intro x
    have l := by_lo (x % 256) (by omega)
    exact ⟨by omega, by_max _ (by omega)⟩
  have hb : ∀ x, x % 256 < 256 := fun x => by omega
  have a1 := la (F / 2 ^ 0)
  have a2 := la (F / 2 ^ 8)
  have a3 := la (F / 2 ^ 16)
  have a4 := la (F / 2 ^ 24)
  have a5 := la (F / 2 ^ 32)
  have a6 := la (F / 2 ^ 40)
  have a7 := la (F / 2 ^ 48)
  have a8 := la (F / 2 ^ 56)
  have e1 := hor_1 (hb (F / 2 ^ 0)) (hb (F / 2 ^ 8)) (hb (F / 2 ^ 16)) (hb (F / 2 ^ 24)) (hb (F / 2 ^ 32)) (hb (F / 2 ^ 40)) (hb (F / 2 ^ 48)) (hb (F / 2 ^ 56))
  have e2 := hor_2 a1.2 a2.2 a3.2 a4.2 a5.2 a6.2 a7.2 a8.2
  rw [← e] at e1
  rw [← e1] at e2
  have b1 : nc_1 F ≤ F := Nat.sub_le _ _
  have b2 : nc_2 (nc_1 F) < 69 * 2 ^ 56 := by
    rw [e2]
    unfold hor
    omega
  exact ⟨by omega, by omega, h3, by omega⟩
theorem m_bitCountL {G : Mem} {F : Nat} (hF : F < 2 ^ 64) : MP M_J13_bitCount_95d88 [.long (lI (F : Int))] G (vx ((q_p64 F 64 : Nat) : Int) G) := by
  have hb := nc_b hF
  have ha := (nc_all hF).1
  have s1 : (F / 2 ^ 1 &&& 6148914691236517205) ≤ F := Nat.le_trans Nat.and_le_left (Nat.div_le_self _ _)
  obtain ⟨n1, e1⟩ : ∃ n, n = F - (F / 2 ^ 1 &&& 6148914691236517205) := ⟨_, rfl⟩
  rw [show nc_1 F = n1 from e1.symm] at hb ha
  obtain ⟨n2, e2⟩ : ∃ n, n = (n1 &&& 3689348814741910323) + (n1 / 2 ^ 2 &&& 3689348814741910323) := ⟨_, rfl⟩
  rw [show nc_2 n1 = n2 from e2.symm] at hb ha
  obtain ⟨n3, e3⟩ : ∃ n, n = (n2 + n2 / 2 ^ 4) &&& 1085102592571150095 := ⟨_, rfl⟩
  rw [show nc_3 n2 = n3 from e3.symm] at hb ha
  obtain ⟨n4, e4⟩ : ∃ n, n = n3 + n3 / 2 ^ 8 := ⟨_, rfl⟩
  rw [show nc_4 n3 = n4 from e4.symm] at ha
  obtain ⟨n5, e5⟩ : ∃ n, n = n4 + n4 / 2 ^ 16 := ⟨_, rfl⟩
  rw [show nc_5 n4 = n5 from e5.symm] at ha
  obtain ⟨n6, e6⟩ : ∃ n, n = n5 + n5 / 2 ^ 32 := ⟨_, rfl⟩
  rw [show nc_6 n5 = n6 from e6.symm] at ha
  have b4 : n4 < 2 ^ 62 := by omega
  have b5 : n5 < 2 ^ 63 := by omega
  refine MP.of [some (.long (lI (F : Int))), none] pf_J13_bitCount_95d88 (Nat.le_of_ble_eq_true rfl) rfl ?_
  refine k_lload_n dJ13_bitCount_95d88_0 rfl ?_
  refine k_lload_n dJ13_bitCount_95d88_1 rfl ?_
  refine k_iconst dJ13_bitCount_95d88_2 ?_
  refine k_lushr F 1 dJ13_bitCount_95d88_3 rfl rfl hF (by decide) ?_
  refine k_ldc2 6148914691236517205 dJ13_bitCount_95d88_4 w_739 ?_
  refine k_land (F / 2 ^ 1) 6148914691236517205 dJ13_bitCount_95d88_7 rfl rfl (by omega) (by decide) ?_
  refine k_lsub dJ13_bitCount_95d88_8 ?_
  refine k_lstore_n (L' := [_, _]) dJ13_bitCount_95d88_9 (Nat.le_of_ble_eq_true rfl) rfl ?_
  rw [show (F : Int) - ((F / 2 ^ 1 &&& 6148914691236517205 : Nat) : Int) = (n1 : Int) by omega]
  refine k_lload_n dJ13_bitCount_95d88_10 rfl ?_
  refine k_ldc2 3689348814741910323 dJ13_bitCount_95d88_11 w_740 ?_
  refine k_land n1 3689348814741910323 dJ13_bitCount_95d88_14 rfl rfl (by omega) (by decide) ?_
  refine k_lload_n dJ13_bitCount_95d88_15 rfl ?_
  refine k_iconst dJ13_bitCount_95d88_16 ?_
  refine k_lushr n1 2 dJ13_bitCount_95d88_17 rfl rfl (by omega) (by decide) ?_
  refine k_ldc2 3689348814741910323 dJ13_bitCount_95d88_18 w_740 ?_
  refine k_land (n1 / 2 ^ 2) 3689348814741910323 dJ13_bitCount_95d88_21 rfl rfl (by omega) (by decide) ?_
  refine k_ladd dJ13_bitCount_95d88_22 ?_
  refine k_lstore_n (L' := [_, _]) dJ13_bitCount_95d88_23 (Nat.le_of_ble_eq_true rfl) rfl ?_
  rw [show ((n1 &&& 3689348814741910323 : Nat) : Int) + ((n1 / 2 ^ 2 &&& 3689348814741910323 : Nat) : Int) = (n2 : Int) by omega]
  refine k_lload_n dJ13_bitCount_95d88_24 rfl ?_
  refine k_lload_n dJ13_bitCount_95d88_25 rfl ?_
  refine k_iconst dJ13_bitCount_95d88_26 ?_
  refine k_lushr n2 4 dJ13_bitCount_95d88_27 rfl rfl (by omega) (by decide) ?_
  refine k_ladd dJ13_bitCount_95d88_28 ?_
  refine k_ldc2 1085102592571150095 dJ13_bitCount_95d88_29 w_741 ?_
  refine k_land (n2 + n2 / 2 ^ 4) 1085102592571150095 dJ13_bitCount_95d88_32 (by omega) rfl (by omega) (by decide) ?_
  refine k_lstore_n (L' := [_, _]) dJ13_bitCount_95d88_33 (Nat.le_of_ble_eq_true rfl) rfl ?_
  rw [← e3]
  refine k_lload_n dJ13_bitCount_95d88_34 rfl ?_
  refine k_lload_n dJ13_bitCount_95d88_35 rfl ?_
  refine k_bipush dJ13_bitCount_95d88_36 (by decide) ?_
  refine k_lushr n3 8 dJ13_bitCount_95d88_38 rfl rfl (by omega) (by decide) ?_
  refine k_ladd dJ13_bitCount_95d88_39 ?_
  refine k_lstore_n (L' := [_, _]) dJ13_bitCount_95d88_40 (Nat.le_of_ble_eq_true rfl) rfl ?_
  rw [show (n3 : Int) + ((n3 / 2 ^ 8 : Nat) : Int) = (n4 : Int) by omega]
  refine k_lload_n dJ13_bitCount_95d88_41 rfl ?_
  refine k_lload_n dJ13_bitCount_95d88_42 rfl ?_
  refine k_bipush dJ13_bitCount_95d88_43 (by decide) ?_
  refine k_lushr n4 16 dJ13_bitCount_95d88_45 rfl rfl (by omega) (by decide) ?_
  refine k_ladd dJ13_bitCount_95d88_46 ?_
  refine k_lstore_n (L' := [_, _]) dJ13_bitCount_95d88_47 (Nat.le_of_ble_eq_true rfl) rfl ?_
  rw [show (n4 : Int) + ((n4 / 2 ^ 16 : Nat) : Int) = (n5 : Int) by omega]
  refine k_lload_n dJ13_bitCount_95d88_48 rfl ?_
  refine k_lload_n dJ13_bitCount_95d88_49 rfl ?_
  refine k_bipush dJ13_bitCount_95d88_50 (by decide) ?_
  refine k_lushr n5 32 dJ13_bitCount_95d88_52 rfl rfl (by omega) (by decide) ?_
  refine k_ladd dJ13_bitCount_95d88_53 ?_
  refine k_lstore_n (L' := [_, _]) dJ13_bitCount_95d88_54 (Nat.le_of_ble_eq_true rfl) rfl ?_
  rw [show (n5 : Int) + ((n5 / 2 ^ 32 : Nat) : Int) = (n6 : Int) by omega]
  refine k_lload_n dJ13_bitCount_95d88_55 rfl ?_
  refine k_l2i n6 dJ13_bitCount_95d88_56 rfl ?_
  refine k_bipush dJ13_bitCount_95d88_57 (by decide) ?_
  refine k_iand127 n6 dJ13_bitCount_95d88_59 rfl ?_
  exact k_iret dJ13_bitCount_95d88_60 rfl ⟨_, rfl, by rw [ha], rfl⟩
