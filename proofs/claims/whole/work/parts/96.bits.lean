/-! Long.bitCount counts bits -/
def pop8 (b : Nat) : Nat := b % 2 + b / 2 % 2 + b / 4 % 2 + b / 8 % 2 + b / 16 % 2 + b / 32 % 2 + b / 64 % 2 + b / 128 % 2
/-- eight lanes -/
def ln8 (a b c d e f g h : Nat) : Nat := a + 256 * (b + 256 * (c + 256 * (d + 256 * (e + 256 * (f + 256 * (g + 256 * h))))))
theorem land_ln {a b c d : Nat} (hb : b < 256) (hd : d < 256) : (b + 256 * a) &&& (d + 256 * c) = (b &&& d) + 256 * (a &&& c) := by
  have hl : b &&& d < 2 ^ 8 := Nat.lt_of_le_of_lt Nat.and_le_left hb
  apply Nat.eq_of_testBit_eq
  intro i
  rw [Nat.testBit_and, Nat.add_comm b, Nat.add_comm d, Nat.add_comm (b &&& d), show (256 : Nat) = 2 ^ 8 from rfl, Nat.testBit_two_pow_mul_add _ (i := 8) hb, Nat.testBit_two_pow_mul_add _ (i := 8) hd, Nat.testBit_two_pow_mul_add _ (i := 8) hl]
  by_cases h : i < 8
  · rw [if_pos h, if_pos h, if_pos h, Nat.testBit_and]
  · rw [if_neg h, if_neg h, if_neg h, Nat.testBit_and]
theorem land_ln8 {a b c d e f g h : Nat} (ha : a < 256) (hb : b < 256) (hc : c < 256) (hd : d < 256) (he : e < 256) (hf : f < 256) (hg : g < 256) (m : Nat) (hm : m < 256) : ln8 a b c d e f g h &&& ln8 m m m m m m m m = ln8 (a &&& m) (b &&& m) (c &&& m) (d &&& m) (e &&& m) (f &&& m) (g &&& m) (h &&& m) := by
  unfold ln8
  rw [land_ln ha hm, land_ln hb hm, land_ln hc hm, land_ln hd hm, land_ln he hm, land_ln hf hm, land_ln hg hm]
theorem b_1 : ∀ b, b < 256 → ∀ u, u < 2 → (b / 2 + 128 * u) &&& 85 = (b / 2) &&& 85 ∧ (b / 2) &&& 85 ≤ b := by decide +kernel
theorem b_2 : ∀ b, b < 256 → ∀ u, u < 4 → (b / 4 + 64 * u) &&& 51 = (b / 4) &&& 51 ∧ (b &&& 51) + ((b / 4) &&& 51) < 128 := by decide +kernel
theorem b_3 : ∀ d, d < 103 → ∀ u, u < 7 → (d + d / 16 + 16 * u) &&& 15 = (d + d / 16) % 16 := by decide +kernel
def bf1 (b : Nat) : Nat := b - ((b / 2) &&& 85)
def bf2 (b : Nat) : Nat := (bf1 b &&& 51) + ((bf1 b / 4) &&& 51)
theorem b_f : ∀ b, b < 256 → bf1 b < 256 ∧ bf2 b < 103 ∧ bf2 b % 16 < 7 ∧ (bf2 b + bf2 b / 16) % 16 = pop8 b := by decide +kernel
