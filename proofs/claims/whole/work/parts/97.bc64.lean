/-! Long.bitCount, step by step -/
theorem lnx_add (a b : Nat) : lN a + lN b = lN (a + b) := wb_inj (by
  show BitVec.ofNat 64 a + BitVec.ofNat 64 b = BitVec.ofNat 64 (a + b)
  rw [BitVec.ofNat_add])
theorem lnx_sub {a b : Nat} (h : b ≤ a) : lN a - lN b = lN (a - b) := by
  have e : lN a = lN (a - b) + lN b := by rw [lnx_add, Nat.sub_add_cancel h]
  rw [e, Int64.add_sub_cancel]
theorem ln8_lt {a b c d e f g h : Nat} (ha : a < 256) (hb : b < 256) (hc : c < 256) (hd : d < 256) (he : e < 256) (hf : f < 256) (hg : g < 256) (hh : h < 256) : ln8 a b c d e f g h < 2 ^ 64 := by
  unfold ln8
  omega
theorem ln8_div2 {a b c d e f g h : Nat} (ha : a < 256) (hb : b < 256) (hc : c < 256) (hd : d < 256) (he : e < 256) (hf : f < 256) (hg : g < 256) (hh : h < 256) : ln8 a b c d e f g h / 2 ^ 1 = ln8 (a / 2 + 128 * (b % 2)) (b / 2 + 128 * (c % 2)) (c / 2 + 128 * (d % 2)) (d / 2 + 128 * (e % 2)) (e / 2 + 128 * (f % 2)) (f / 2 + 128 * (g % 2)) (g / 2 + 128 * (h % 2)) (h / 2) := by
  unfold ln8
  omega
theorem ln8_div4 {a b c d e f g h : Nat} (ha : a < 256) (hb : b < 256) (hc : c < 256) (hd : d < 256) (he : e < 256) (hf : f < 256) (hg : g < 256) (hh : h < 256) : ln8 a b c d e f g h / 2 ^ 2 = ln8 (a / 4 + 64 * (b % 4)) (b / 4 + 64 * (c % 4)) (c / 4 + 64 * (d % 4)) (d / 4 + 64 * (e % 4)) (e / 4 + 64 * (f % 4)) (f / 4 + 64 * (g % 4)) (g / 4 + 64 * (h % 4)) (h / 4) := by
  unfold ln8
  omega
theorem ln8_div16 {a b c d e f g h : Nat} (ha : a < 256) (hb : b < 256) (hc : c < 256) (hd : d < 256) (he : e < 256) (hf : f < 256) (hg : g < 256) (hh : h < 256) : ln8 a b c d e f g h / 2 ^ 4 = ln8 (a / 16 + 16 * (b % 16)) (b / 16 + 16 * (c % 16)) (c / 16 + 16 * (d % 16)) (d / 16 + 16 * (e % 16)) (e / 16 + 16 * (f % 16)) (f / 16 + 16 * (g % 16)) (g / 16 + 16 * (h % 16)) (h / 16) := by
  unfold ln8
  omega
theorem ln8_add (a b c d e f g h a' b' c' d' e' f' g' h' : Nat) : ln8 a b c d e f g h + ln8 a' b' c' d' e' f' g' h' = ln8 (a + a') (b + b') (c + c') (d + d') (e + e') (f + f') (g + g') (h + h') := by
  unfold ln8
  omega
theorem ln8_sub {a b c d e f g h a' b' c' d' e' f' g' h' : Nat} (ha : a' ≤ a) (hb : b' ≤ b) (hc : c' ≤ c) (hd : d' ≤ d) (he : e' ≤ e) (hf : f' ≤ f) (hg : g' ≤ g) (hh : h' ≤ h) : ln8 a' b' c' d' e' f' g' h' ≤ ln8 a b c d e f g h ∧ ln8 a b c d e f g h - ln8 a' b' c' d' e' f' g' h' = ln8 (a - a') (b - b') (c - c') (d - d') (e - e') (f - f') (g - g') (h - h') := by
  unfold ln8
  omega
theorem bc64_fin {p0 p1 p2 p3 p4 p5 p6 p7 : Nat} (h0 : p0 ≤ 8) (h1 : p1 ≤ 8) (h2 : p2 ≤ 8) (h3 : p3 ≤ 8) (h4 : p4 ≤ 8) (h5 : p5 ≤ 8) (h6 : p6 ≤ 8) (h7 : p7 ≤ 8) : ∃ X1 X2 X3 X4 X5 X6 X7 : Nat, ln8 p0 p1 p2 p3 p4 p5 p6 p7 = p0 + 256 * X1 ∧ X1 = p1 + 256 * X2 ∧ X2 = p2 + 256 * X3 ∧ X3 = p3 + 256 * X4 ∧ X4 = p4 + 256 * X5 ∧ X5 = p5 + 256 * X6 ∧ X6 = p6 + 256 * X7 ∧ X7 = p7 := ⟨_, _, _, _, _, _, _, rfl, rfl, rfl, rfl, rfl, rfl, rfl, rfl⟩
theorem bc_1 {a b c d e f g h : Nat} (ha : a < 256) (hb : b < 256) (hc : c < 256) (hd : d < 256) (he : e < 256) (hf : f < 256) (hg : g < 256) (hh : h < 256) : lN (ln8 a b c d e f g h) - (((lN (ln8 a b c d e f g h)).toUInt64 >>> ((nI 1).toInt64.toUInt64 &&& Int64.toUInt64 63)).toInt64 &&& 6148914691236517205) = lN (ln8 (bf1 a) (bf1 b) (bf1 c) (bf1 d) (bf1 e) (bf1 f) (bf1 g) (bf1 h)) := by
  have hz := ln8_lt ha hb hc hd he hf hg hh
  have A := b_1 a ha (b % 2) (Nat.mod_lt _ (by decide))
  have B := b_1 b hb (c % 2) (Nat.mod_lt _ (by decide))
  have C := b_1 c hc (d % 2) (Nat.mod_lt _ (by decide))
  have D := b_1 d hd (e % 2) (Nat.mod_lt _ (by decide))
  have E := b_1 e he (f % 2) (Nat.mod_lt _ (by decide))
  have F := b_1 f hf (g % 2) (Nat.mod_lt _ (by decide))
  have G := b_1 g hg (h % 2) (Nat.mod_lt _ (by decide))
  have H := b_1 h hh 0 (by decide)
  rw [wb_shr hz (by decide), show (6148914691236517205 : Int64) = lN (ln8 85 85 85 85 85 85 85 85) from by decide, wb_and (by omega) (by decide), ln8_div2 ha hb hc hd he hf hg hh, land_ln8 (by omega) (by omega) (by omega) (by omega) (by omega) (by omega) (by omega) 85 (by decide), A.1, B.1, C.1, D.1, E.1, F.1, G.1]
  have hs := ln8_sub A.2 B.2 C.2 D.2 E.2 F.2 G.2 H.2
  rw [lnx_sub hs.1, hs.2]
  rfl
theorem bc_2 {a b c d e f g h : Nat} (ha : a < 256) (hb : b < 256) (hc : c < 256) (hd : d < 256) (he : e < 256) (hf : f < 256) (hg : g < 256) (hh : h < 256) : (lN (ln8 a b c d e f g h) &&& 3689348814741910323) + (((lN (ln8 a b c d e f g h)).toUInt64 >>> ((nI 2).toInt64.toUInt64 &&& Int64.toUInt64 63)).toInt64 &&& 3689348814741910323) = lN (ln8 ((a &&& 51) + ((a / 4) &&& 51)) ((b &&& 51) + ((b / 4) &&& 51)) ((c &&& 51) + ((c / 4) &&& 51)) ((d &&& 51) + ((d / 4) &&& 51)) ((e &&& 51) + ((e / 4) &&& 51)) ((f &&& 51) + ((f / 4) &&& 51)) ((g &&& 51) + ((g / 4) &&& 51)) ((h &&& 51) + ((h / 4) &&& 51))) := by
  have hz := ln8_lt ha hb hc hd he hf hg hh
  have A := b_2 a ha (b % 4) (Nat.mod_lt _ (by decide))
  have B := b_2 b hb (c % 4) (Nat.mod_lt _ (by decide))
  have C := b_2 c hc (d % 4) (Nat.mod_lt _ (by decide))
  have D := b_2 d hd (e % 4) (Nat.mod_lt _ (by decide))
  have E := b_2 e he (f % 4) (Nat.mod_lt _ (by decide))
  have F := b_2 f hf (g % 4) (Nat.mod_lt _ (by decide))
  have G := b_2 g hg (h % 4) (Nat.mod_lt _ (by decide))
  rw [wb_shr hz (by decide), show (3689348814741910323 : Int64) = lN (ln8 51 51 51 51 51 51 51 51) from by decide, wb_and hz (by decide), wb_and (by omega) (by decide), ln8_div4 ha hb hc hd he hf hg hh, land_ln8 ha hb hc hd he hf hg 51 (by decide), land_ln8 (by omega) (by omega) (by omega) (by omega) (by omega) (by omega) (by omega) 51 (by decide), A.1, B.1, C.1, D.1, E.1, F.1, G.1, lnx_add, ln8_add]
theorem bc_3 {a b c d e f g h : Nat} (ha : a < 103) (hb : b < 103) (hc : c < 103) (hd : d < 103) (he : e < 103) (hf : f < 103) (hg : g < 103) (hh : h < 103) (hb' : b % 16 < 7) (hc' : c % 16 < 7) (hd' : d % 16 < 7) (he' : e % 16 < 7) (hf' : f % 16 < 7) (hg' : g % 16 < 7) (hh' : h % 16 < 7) : (lN (ln8 a b c d e f g h) + ((lN (ln8 a b c d e f g h)).toUInt64 >>> ((nI 4).toInt64.toUInt64 &&& Int64.toUInt64 63)).toInt64) &&& 1085102592571150095 = lN (ln8 ((a + a / 16) % 16) ((b + b / 16) % 16) ((c + c / 16) % 16) ((d + d / 16) % 16) ((e + e / 16) % 16) ((f + f / 16) % 16) ((g + g / 16) % 16) ((h + h / 16) % 16)) := by
  have hz := ln8_lt (a := a) (b := b) (c := c) (d := d) (e := e) (f := f) (g := g) (h := h) (by omega) (by omega) (by omega) (by omega) (by omega) (by omega) (by omega) (by omega)
  have A := b_3 a ha (b % 16) hb'
  have B := b_3 b hb (c % 16) hc'
  have C := b_3 c hc (d % 16) hd'
  have D := b_3 d hd (e % 16) he'
  have E := b_3 e he (f % 16) hf'
  have F := b_3 f hf (g % 16) hg'
  have G := b_3 g hg (h % 16) hh'
  have H := b_3 h hh 0 (by decide)
  have h2 := ln8_lt (a := a + (a / 16 + 16 * (b % 16))) (b := b + (b / 16 + 16 * (c % 16))) (c := c + (c / 16 + 16 * (d % 16))) (d := d + (d / 16 + 16 * (e % 16))) (e := e + (e / 16 + 16 * (f % 16))) (f := f + (f / 16 + 16 * (g % 16))) (g := g + (g / 16 + 16 * (h % 16))) (h := h + h / 16) (by omega) (by omega) (by omega) (by omega) (by omega) (by omega) (by omega) (by omega)
  rw [wb_shr hz (by decide), ln8_div16 (by omega) (by omega) (by omega) (by omega) (by omega) (by omega) (by omega) (by omega), lnx_add, ln8_add, show (1085102592571150095 : Int64) = lN (ln8 15 15 15 15 15 15 15 15) from by decide, wb_and h2 (by decide), land_ln8 (by omega) (by omega) (by omega) (by omega) (by omega) (by omega) (by omega) 15 (by decide), ← Nat.add_assoc, ← Nat.add_assoc, ← Nat.add_assoc, ← Nat.add_assoc, ← Nat.add_assoc, ← Nat.add_assoc, ← Nat.add_assoc, A, B, C, D, E, F, G]
  rw [show (h + h / 16) &&& 15 = (h + h / 16) % 16 from by rw [← H]; rfl]
