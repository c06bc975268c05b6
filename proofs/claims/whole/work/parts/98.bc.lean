/-! Long.bitCount is the number of bits -/
theorem bc_4 {p0 p1 p2 p3 p4 p5 p6 p7 : Nat} (h0 : p0 ≤ 8) (h1 : p1 ≤ 8) (h2 : p2 ≤ 8) (h3 : p3 ≤ 8) (h4 : p4 ≤ 8) (h5 : p5 ≤ 8) (h6 : p6 ≤ 8) (h7 : p7 ≤ 8) {i3 i4 i5 i6 : Int64} (e3 : i3 = lN (ln8 p0 p1 p2 p3 p4 p5 p6 p7)) (e4 : i4 = i3 + (i3.toUInt64 >>> ((nI 8).toInt64.toUInt64 &&& Int64.toUInt64 63)).toInt64) (e5 : i5 = i4 + (i4.toUInt64 >>> ((nI 16).toInt64.toUInt64 &&& Int64.toUInt64 63)).toInt64) (e6 : i6 = i5 + (i5.toUInt64 >>> ((nI 32).toInt64.toUInt64 &&& Int64.toUInt64 63)).toInt64) : i6.toInt32 &&& nI 127 = nI (p0 + p1 + p2 + p3 + p4 + p5 + p6 + p7) := by
  obtain ⟨X1, X2, X3, X4, X5, X6, X7, a0, a1, a2, a3, a4, a5, a6, a7⟩ := bc64_fin h0 h1 h2 h3 h4 h5 h6 h7
  rw [a0] at e3
  subst e3
  rw [wb_shr (by omega) (by decide), show (p0 + 256 * X1) / 2 ^ 8 = X1 from by omega, lnx_add] at e4
  subst e4
  rw [wb_shr (by omega) (by decide), show (p0 + 256 * X1 + X1) / 2 ^ 16 = X2 + X3 from by omega, lnx_add] at e5
  subst e5
  rw [wb_shr (by omega) (by decide), show (p0 + 256 * X1 + X1 + (X2 + X3)) / 2 ^ 32 = X4 + X5 + X6 + X7 from by omega, lnx_add] at e6
  subst e6
  rw [lN_i, pk_and (nI _) (m := nI 127) 7 (by decide)]
  congr 1
  have e1 : ∀ n, (nI n).toBitVec.toNat = n % 2 ^ 32 := fun n => by
    show (BitVec.ofNat 32 n).toNat = _
    rw [BitVec.toNat_ofNat]
  rw [e1]
  omega
theorem bc64_ln {a b c d e f g h : Nat} (ha : a < 256) (hb : b < 256) (hc : c < 256) (hd : d < 256) (he : e < 256) (hf : f < 256) (hg : g < 256) (hh : h < 256) : bc64 (lN (ln8 a b c d e f g h)) = nI (pop8 a + pop8 b + pop8 c + pop8 d + pop8 e + pop8 f + pop8 g + pop8 h) := by
  have pl : ∀ b, pop8 b ≤ 8 := fun b => by unfold pop8; omega
  obtain ⟨A1, A2, A3, A4⟩ := b_f a ha
  obtain ⟨B1, B2, B3, B4⟩ := b_f b hb
  obtain ⟨C1, C2, C3, C4⟩ := b_f c hc
  obtain ⟨D1, D2, D3, D4⟩ := b_f d hd
  obtain ⟨E1, E2, E3, E4⟩ := b_f e he
  obtain ⟨F1, F2, F3, F4⟩ := b_f f hf
  obtain ⟨G1, G2, G3, G4⟩ := b_f g hg
  obtain ⟨H1, H2, H3, H4⟩ := b_f h hh
  have s1 := bc_1 ha hb hc hd he hf hg hh
  have s2 := bc_2 A1 B1 C1 D1 E1 F1 G1 H1
  have s3 := bc_3 A2 B2 C2 D2 E2 F2 G2 H2 B3 C3 D3 E3 F3 G3 H3
  rw [A4, B4, C4, D4, E4, F4, G4, H4] at s3
  unfold bc64
  dsimp only
  rw [s1, s2]
  exact bc_4 (pl a) (pl b) (pl c) (pl d) (pl e) (pl f) (pl g) (pl h) s3 rfl rfl rfl
def bsum (z : Nat) : Nat → Nat
  | 0 => 0
  | n + 1 => bsum z n + z / 2 ^ n % 2
theorem bsum_8 (z n : Nat) : bsum z (n + 8) = bsum z n + pop8 (z / 2 ^ n % 256) := by
  have e : ∀ i, z / 2 ^ (n + i) = z / 2 ^ n / 2 ^ i := fun i => by rw [Nat.pow_add, Nat.div_div_eq_div_mul]
  show bsum z n + z / 2 ^ n % 2 + z / 2 ^ (n + 1) % 2 + z / 2 ^ (n + 2) % 2 + z / 2 ^ (n + 3) % 2 + z / 2 ^ (n + 4) % 2 + z / 2 ^ (n + 5) % 2 + z / 2 ^ (n + 6) % 2 + z / 2 ^ (n + 7) % 2 = _
  rw [e 1, e 2, e 3, e 4, e 5, e 6, e 7]
  generalize z / 2 ^ n = y
  unfold pop8
  omega
theorem bc64_eq {z : Nat} (hz : z < 2 ^ 64) : bc64 (lN z) = nI (bsum z 64) := by
  have ez : z = ln8 (z / 2 ^ 0 % 256) (z / 2 ^ 8 % 256) (z / 2 ^ 16 % 256) (z / 2 ^ 24 % 256) (z / 2 ^ 32 % 256) (z / 2 ^ 40 % 256) (z / 2 ^ 48 % 256) (z / 2 ^ 56 % 256) := by
    unfold ln8
    omega
  have h := bc64_ln (a := z / 2 ^ 0 % 256) (b := z / 2 ^ 8 % 256) (c := z / 2 ^ 16 % 256) (d := z / 2 ^ 24 % 256) (e := z / 2 ^ 32 % 256) (f := z / 2 ^ 40 % 256) (g := z / 2 ^ 48 % 256) (h := z / 2 ^ 56 % 256) (Nat.mod_lt _ (by decide)) (Nat.mod_lt _ (by decide)) (Nat.mod_lt _ (by decide)) (Nat.mod_lt _ (by decide)) (Nat.mod_lt _ (by decide)) (Nat.mod_lt _ (by decide)) (Nat.mod_lt _ (by decide)) (Nat.mod_lt _ (by decide))
  rw [← ez] at h
  rw [h, bsum_8 z 56, bsum_8 z 48, bsum_8 z 40, bsum_8 z 32, bsum_8 z 24, bsum_8 z 16, bsum_8 z 8, bsum_8 z 0]
  congr 1
  rw [show bsum z 0 = 0 from rfl, Nat.zero_add]
theorem size_eq (σ : aS) (node : Nat) : bc64 (a_setF σ 9 node 48) = nI (a_size σ node 48) := by
  obtain ⟨z, hz, e⟩ := wb_of (a_setF σ 9 node 48)
  have hb : ∀ q, q < 64 → z / 2 ^ q % 2 = if q < 48 ∧ ¬ σ.1 9 (48 * node + q) = 0 then 1 else 0 := fun q hq => by
    have h1 := lb_setF σ 9 node hq 48 (by decide)
    rw [e, lb_lN, decide_eq_true hq, Bool.true_and] at h1
    rw [← tb_nat, h1]
    by_cases h2 : q < 48
    · by_cases h3 : σ.1 9 (48 * node + q) = 0
      · rw [decide_eq_true h2, decide_eq_true h3, if_neg (fun h => h.2 h3)]
        rfl
      · rw [decide_eq_true h2, decide_eq_false h3, if_pos ⟨h2, h3⟩]
        rfl
    · rw [decide_eq_false h2, if_neg (fun h => h2 h.1)]
      rfl
  have h48 : ∀ n, n ≤ 48 → bsum z n = a_size σ node n := by
    intro n
    induction n with
    | zero => intro _; rfl
    | succ n ih =>
      intro hn
      rw [bsum, a_size, ih (by omega), hb n (by omega)]
      congr 1
      by_cases h3 : σ.1 9 (48 * node + n) = 0
      · rw [if_neg (fun h => h.2 h3), if_pos h3]
      · rw [if_pos ⟨by omega, h3⟩, if_neg h3]
  have h64 : ∀ n, n ≤ 16 → bsum z (48 + n) = bsum z 48 := by
    intro n
    induction n with
    | zero => intro _; rfl
    | succ n ih =>
      intro hn
      rw [show 48 + (n + 1) = (48 + n) + 1 from rfl, bsum, ih (by omega), hb (48 + n) (by omega), if_neg (fun h => by omega), Nat.add_zero]
  rw [e, bc64_eq hz, show bsum z 64 = bsum z 48 from h64 16 (Nat.le_refl _), h48 48 (Nat.le_refl _)]
