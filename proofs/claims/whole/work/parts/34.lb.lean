/-! longs as sets -/
def lb (x : Int64) (q : Nat) : Bool := x.toBitVec.getLsbD q
theorem lb_test (x : Int64) {q : Nat} (hq : q < 64) : ((x.toUInt64 >>> ((nI q).toInt64.toUInt64 &&& Int64.toUInt64 63)).toInt64 &&& 1) = 0 ↔ lb x q = false := by
  rw [wb_cu q hq]
  exact ts_bit hq (u_tn (by omega))
theorem nx_or (a b : Nat) : nI a ||| nI b = nI (a ||| b) := by
  apply Int32.toBitVec_inj.1
  show BitVec.ofNat 32 a ||| BitVec.ofNat 32 b = BitVec.ofNat 32 (a ||| b)
  apply BitVec.eq_of_getLsbD_eq
  intro i hi
  simp [hi]
theorem lb_or (x y : Int64) (q : Nat) : lb (x ||| y) q = (lb x q || lb y q) := by
  unfold lb
  rw [Int64.toBitVec_or, BitVec.getLsbD_or]
theorem lb_and (x y : Int64) (q : Nat) : lb (x &&& y) q = (lb x q && lb y q) := by
  unfold lb
  rw [Int64.toBitVec_and, BitVec.getLsbD_and]
theorem lb_not (x : Int64) {q : Nat} (hq : q < 64) : lb (x ^^^ (-1)) q = !lb x q := by
  unfold lb
  rw [Int64.toBitVec_xor, BitVec.getLsbD_xor, show (-1 : Int64).toBitVec = BitVec.allOnes 64 from by decide, BitVec.getLsbD_allOnes]
  simp [hq]
theorem lb_0 (q : Nat) : lb 0 q = false := by
  unfold lb
  rw [show (0 : Int64).toBitVec = 0#64 from rfl]
  simp
theorem lb_big (x : Int64) {q : Nat} (hq : 64 ≤ q) : lb x q = false := by
  unfold lb
  exact BitVec.getLsbD_of_ge _ _ hq
theorem lb_ext {x y : Int64} (h : ∀ q, q < 64 → lb x q = lb y q) : x = y := Int64.toBitVec_inj.1 (BitVec.eq_of_getLsbD_eq (fun i hi => h i hi))
theorem lb_lN (n q : Nat) : lb (lN n) q = (decide (q < 64) && n.testBit q) := by
  unfold lb
  rw [wb_tb, BitVec.getLsbD_ofNat]
theorem lb_pow {k : Nat} (hk : k < 64) (q : Nat) : lb (lN (2 ^ k)) q = decide (q = k) := by
  rw [lb_lN, Nat.testBit_two_pow]
  by_cases h : q = k
  · subst h; simp [hk]
  · simp [h, Ne.symm h]
theorem lb_zero {x : Int64} : x = 0 ↔ ∀ q, q < 64 → lb x q = false := ⟨fun h q _ => by rw [h]; exact lb_0 q, fun h => lb_ext (fun q hq => by rw [h q hq, lb_0])⟩
/-- x lies in y -/
theorem lb_sub {x y : Int64} : x &&& (y ^^^ (-1)) = 0 ↔ ∀ q, q < 64 → lb x q = true → lb y q = true := by
  rw [lb_zero]
  refine forall_congr' fun q => forall_congr' fun hq => ?_
  rw [lb_and, lb_not y hq]
  cases lb x q <;> cases lb y q <;> simp
theorem lb_shl {m k : Nat} (hk : k < 64) (q : Nat) : lb (lN (m * 2 ^ k)) q = (decide (q < 64) && (decide (k ≤ q) && m.testBit (q - k))) := by
  rw [lb_lN, Nat.mul_comm, Nat.testBit_two_pow_mul]
def pop4 (m : Nat) : Nat := m % 2 + m / 2 % 2 + m / 4 % 2 + m / 8 % 2
/-- four of the set's places, as a number -/
def four (x : Int64) (k : Nat) : Nat := (lb x k).toNat + 2 * (lb x (k + 1)).toNat + 4 * (lb x (k + 2)).toNat + 8 * (lb x (k + 3)).toNat
theorem four_lt (x : Int64) (k : Nat) : four x k < 16 := by
  unfold four
  have h1 := Bool.toNat_le (lb x k)
  have h2 := Bool.toNat_le (lb x (k + 1))
  have h3 := Bool.toNat_le (lb x (k + 2))
  have h4 := Bool.toNat_le (lb x (k + 3))
  omega
theorem tb_nat (n i : Nat) : (n.testBit i).toNat = n / 2 ^ i % 2 := by
  rw [Nat.testBit_eq_decide_div_mod_eq]
  by_cases h : n / 2 ^ i % 2 = 1
  · simp [h]
  · simp [h]; omega
theorem four_raw (x : Int64) {k : Nat} (hk : k ≤ 60) : ((x.toUInt64 >>> ((nI k).toInt64.toUInt64 &&& Int64.toUInt64 63)).toInt64).toInt32 &&& nI 15 = nI (four x k) := by
  obtain ⟨z, hz, rfl⟩ := wb_of x
  rw [wb_shr hz (by omega), lN_i, pk_and (nI (z / 2 ^ k)) (m := nI 15) 4 (by decide)]
  congr 1
  have e1 : (nI (z / 2 ^ k)).toBitVec.toNat = z / 2 ^ k % 2 ^ 32 := by
    show (BitVec.ofNat 32 (z / 2 ^ k)).toNat = _
    rw [BitVec.toNat_ofNat]
  have hb : ∀ s, s < 4 → (lb (lN z) (k + s)).toNat = z / 2 ^ k / 2 ^ s % 2 := fun s hs => by
    rw [lb_lN, decide_eq_true (by omega : k + s < 64), Bool.true_and, tb_nat, Nat.pow_add, Nat.div_div_eq_div_mul]
  unfold four
  have h0 := hb 0 (by omega)
  rw [Nat.add_zero] at h0
  rw [e1, h0, hb 1 (by omega), hb 2 (by omega), hb 3 (by omega)]
  generalize z / 2 ^ k = a
  omega
