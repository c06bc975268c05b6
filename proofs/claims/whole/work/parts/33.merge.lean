/-! a callee's store back in its caller's -/
theorem mw_rI_self (S : mw_S) (k : Nat) : mw_rI S k (S.1 k) = S := by
  refine Prod.ext ?_ rfl
  funext i
  simp only [mw_rI]
  by_cases h : i = k
  · rw [if_pos h, h]
  · rw [if_neg h]
theorem mw_rI_rI (S : mw_S) (k : Nat) (f g : Nat → Int32) : mw_rI (mw_rI S k f) k g = mw_rI S k g := by
  refine Prod.ext ?_ rfl
  funext i
  simp only [mw_rI]
  by_cases h : i = k
  · rw [if_pos h, if_pos h]
  · rw [if_neg h, if_neg h, if_neg h]
theorem mw_rL_rL (S : mw_S) (k : Nat) (f g : Nat → Int64) : mw_rL (mw_rL S k f) k g = mw_rL S k g := by
  refine Prod.ext rfl ?_
  funext i
  simp only [mw_rL]
  by_cases h : i = k
  · rw [if_pos h, if_pos h]
  · rw [if_neg h, if_neg h, if_neg h]
theorem mw_rI_sw (S : mw_S) {k j : Nat} (h : k ≠ j) (f g : Nat → Int32) : mw_rI (mw_rI S k f) j g = mw_rI (mw_rI S j g) k f := by
  refine Prod.ext ?_ rfl
  funext i
  simp only [mw_rI]
  by_cases h1 : i = j
  · rw [if_pos h1, if_pos h1, if_neg (fun e => h (e.symm.trans h1))]
  · rw [if_neg h1, if_neg h1]
theorem upd_upd (f : Nat → Int32) (k : Nat) (x y : Int32) : upd (upd f k x) k y = upd f k y := by
  funext j
  simp only [upd]
  by_cases h : j = k
  · rw [if_pos h, if_pos h]
  · rw [if_neg h, if_neg h, if_neg h]
theorem mw_uI_1 (S : mw_S) (k j : Nat) (x : Int32) (i : Nat) : (mw_uI S k j x).1 i = if i = k then upd (S.1 k) j x else S.1 i := rfl
theorem mw_uL_2 (S : mw_S) (k j : Nat) (x : Int64) (i : Nat) : (mw_uL S k j x).2 i = if i = k then vp_updL (S.2 k) j x else S.2 i := rfl
theorem mw_uI_2 (S : mw_S) (k j : Nat) (x : Int32) : (mw_uI S k j x).2 = S.2 := rfl
theorem mw_uL_1 (S : mw_S) (k j : Nat) (x : Int64) : (mw_uL S k j x).1 = S.1 := rfl
section MWG
variable {sh' sh : Nat → mw_H} {n' n : Nat} {ix : List Nat} {S S1 : mw_S}
theorem mw_mg_rs (S : mw_S) (ix : List Nat) : mw_mg S ix (mw_rs S ix) = S := by
  refine Prod.ext ?_ ?_
  · funext i
    show (match mw_pos ix i with
      | some k => S.1 (mw_ixf ix k)
      | none => S.1 i) = S.1 i
    cases h : mw_pos ix i with
    | none => rfl
    | some k => show S.1 (mw_ixf ix k) = S.1 i; rw [(mw_pos_lt h).2]
  · funext i
    show (match mw_pos ix i with
      | some k => S.2 (mw_ixf ix k)
      | none => S.2 i) = S.2 i
    cases h : mw_pos ix i with
    | none => rfl
    | some k => show S.2 (mw_ixf ix k) = S.2 i; rw [(mw_pos_lt h).2]
theorem mw_mg_1 (hx : mw_ix sh' n' sh n ix) {k i : Nat} (hk : k < n') (hi : mw_ixf ix k = i) : (mw_mg S ix S1).1 i = S1.1 k := by
  subst hi
  show (match mw_pos ix (mw_ixf ix k) with
      | some k => S1.1 k
      | none => S.1 (mw_ixf ix k)) = _
  rw [(hx.2 k hk).2.2]
theorem mw_mg_2 (hx : mw_ix sh' n' sh n ix) {k i : Nat} (hk : k < n') (hi : mw_ixf ix k = i) : (mw_mg S ix S1).2 i = S1.2 k := by
  subst hi
  show (match mw_pos ix (mw_ixf ix k) with
      | some k => S1.2 k
      | none => S.2 (mw_ixf ix k)) = _
  rw [(hx.2 k hk).2.2]
theorem mw_mg_1n {i : Nat} (hi : mw_pos ix i = none) : (mw_mg S ix S1).1 i = S.1 i := by
  show (match mw_pos ix i with
      | some k => S1.1 k
      | none => S.1 i) = _
  rw [hi]
theorem mw_mg_2n {i : Nat} (hi : mw_pos ix i = none) : (mw_mg S ix S1).2 i = S.2 i := by
  show (match mw_pos ix i with
      | some k => S1.2 k
      | none => S.2 i) = _
  rw [hi]
theorem mw_mg_rI (hx : mw_ix sh' n' sh n ix) {k i : Nat} (hk : k < n') (hi : mw_ixf ix k = i) (f : Nat → Int32) : mw_mg S ix (mw_rI S1 k f) = mw_rI (mw_mg S ix S1) i f := by
  subst hi
  refine Prod.ext ?_ rfl
  funext i
  show (match mw_pos ix i with
      | some j => (if j = k then f else S1.1 j)
      | none => S.1 i) = if i = mw_ixf ix k then f else (match mw_pos ix i with
      | some j => S1.1 j
      | none => S.1 i)
  cases h : mw_pos ix i with
  | none =>
    by_cases e : i = mw_ixf ix k
    · rw [e, (hx.2 k hk).2.2] at h; cases h
    · rw [if_neg e]
  | some j =>
    by_cases e : i = mw_ixf ix k
    · rw [if_pos e]
      rw [e, (hx.2 k hk).2.2] at h
      show (if j = k then f else S1.1 j) = f
      rw [if_pos (Option.some.inj h).symm]
    · rw [if_neg e]
      show (if j = k then f else S1.1 j) = S1.1 j
      rw [if_neg (fun e2 => e (by rw [← e2]; exact (mw_pos_lt h).2.symm))]
theorem mw_mg_rL (hx : mw_ix sh' n' sh n ix) {k i : Nat} (hk : k < n') (hi : mw_ixf ix k = i) (f : Nat → Int64) : mw_mg S ix (mw_rL S1 k f) = mw_rL (mw_mg S ix S1) i f := by
  subst hi
  refine Prod.ext rfl ?_
  funext i
  show (match mw_pos ix i with
      | some j => (if j = k then f else S1.2 j)
      | none => S.2 i) = if i = mw_ixf ix k then f else (match mw_pos ix i with
      | some j => S1.2 j
      | none => S.2 i)
  cases h : mw_pos ix i with
  | none =>
    by_cases e : i = mw_ixf ix k
    · rw [e, (hx.2 k hk).2.2] at h; cases h
    · rw [if_neg e]
  | some j =>
    by_cases e : i = mw_ixf ix k
    · rw [if_pos e]
      rw [e, (hx.2 k hk).2.2] at h
      show (if j = k then f else S1.2 j) = f
      rw [if_pos (Option.some.inj h).symm]
    · rw [if_neg e]
      show (if j = k then f else S1.2 j) = S1.2 j
      rw [if_neg (fun e2 => e (by rw [← e2]; exact (mw_pos_lt h).2.symm))]
theorem mw_mg_uI (hx : mw_ix sh' n' sh n ix) {k i : Nat} (hk : k < n') (hi : mw_ixf ix k = i) (j : Nat) (x : Int32) : mw_mg S ix (mw_uI S1 k j x) = mw_uI (mw_mg S ix S1) i j x := by
  unfold mw_uI
  rw [mw_mg_rI hx hk hi, mw_mg_1 hx hk hi]
theorem mw_mg_uL (hx : mw_ix sh' n' sh n ix) {k i : Nat} (hk : k < n') (hi : mw_ixf ix k = i) (j : Nat) (x : Int64) : mw_mg S ix (mw_uL S1 k j x) = mw_uL (mw_mg S ix S1) i j x := by
  unfold mw_uL
  rw [mw_mg_rL hx hk hi, mw_mg_2 hx hk hi]
end MWG
