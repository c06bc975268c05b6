/-! what lies below a set of places -/
def a_acc (σ : aS) (node q : Nat) : Nat := σ.1 8 (48 * node + q)
theorem or_3 (x y z : Int64) : x ||| y ||| z = x ||| z ||| (y ||| z) := by
  apply lb_ext
  intro i _
  simp only [lb_or]
  cases lb x i <;> cases lb y i <;> cases lb z i <;> rfl
theorem or_l (x y z : Int64) : x ||| y ||| z = x ||| z ||| y := by
  apply lb_ext
  intro i _
  simp only [lb_or]
  cases lb x i <;> cases lb y i <;> cases lb z i <;> rfl
theorem or_a (x y z : Int64) : x ||| y ||| z = x ||| (y ||| z) := by
  apply lb_ext
  intro i _
  simp only [lb_or]
  cases lb x i <;> cases lb y i <;> cases lb z i <;> rfl
theorem or_sub {x y : Int64} (h : ∀ b, b < 64 → lb y b = true → lb x b = true) : x ||| y = x := by
  apply lb_ext
  intro i hi
  rw [lb_or]
  cases hy : lb y i
  · rw [Bool.or_false]
  · rw [h i hi hy]
    rfl
theorem or_0 (x : Int64) : x ||| 0 = x := or_sub (fun b _ h => by rw [lb_0] at h; cases h)
theorem bl_or (σ : aS) (node : Nat) (so : Bool) : ∀ (n : Nat) (x y : Int64), a_below σ node so n (x ||| y) = a_below σ node so n x ||| a_below σ node so n y
  | 0, _, _ => rfl
  | n + 1, x, y => by
    rw [a_below, a_below, a_below, ← bl_or σ node so n]
    congr 1
    by_cases ha : 0 < σ.1 8 (48 * node + n)
    · rw [lb_or]
      cases hx : lb x n
      · cases hy : lb y n
        · rw [if_neg (by simp), if_neg (by simp), if_neg (by simp)]
        · rw [if_pos ⟨by simp, ha⟩, if_neg (by simp), if_pos ⟨rfl, ha⟩, or_a]
      · cases hy : lb y n
        · rw [if_pos ⟨by simp, ha⟩, if_pos ⟨rfl, ha⟩, if_neg (by simp), or_l]
        · rw [if_pos ⟨by simp, ha⟩, if_pos ⟨rfl, ha⟩, if_pos ⟨rfl, ha⟩, or_3]
    · rw [if_neg (fun h => ha h.2), if_neg (fun h => ha h.2), if_neg (fun h => ha h.2)]
theorem bl_id {σ : aS} {node : Nat} {so : Bool} {x : Int64} : ∀ {n : Nat}, (∀ q, q < n → lb x q = true → 0 < σ.1 8 (48 * node + q) → ∀ b, b < 64 → lb (a_points σ (σ.1 8 (48 * node + q)) so) b = true → lb x b = true) → a_below σ node so n x = x
  | 0, _ => rfl
  | n + 1, h => by
    have e : (if lb x n = true ∧ 0 < σ.1 8 (48 * node + n) then x ||| a_points σ (σ.1 8 (48 * node + n)) so else x) = x := by
      split
      · rename_i hc
        exact or_sub (h n (by omega) hc.1 hc.2)
      · rfl
    rw [a_below, e]
    exact bl_id (fun q hq => h q (by omega))
theorem bl_skip {σ : aS} {node : Nat} {so : Bool} {x : Int64} {k : Nat} : ∀ {d : Nat}, (∀ q, k ≤ q → q < k + d → lb x q = false) → a_below σ node so (k + d) x = a_below σ node so k x
  | 0, _ => rfl
  | d + 1, h => by
    rw [show k + (d + 1) = (k + d) + 1 from rfl, a_below, if_neg (fun hc => by rw [h (k + d) (by omega) (by omega)] at hc; exact absurd hc.1 (by decide))]
    exact bl_skip (fun q h1 h2 => h q h1 (by omega))
theorem bl_ge (σ : aS) (node : Nat) (so : Bool) : ∀ (n : Nat) (x : Int64) {b : Nat}, lb x b = true → lb (a_below σ node so n x) b = true
  | 0, _, _, h => h
  | n + 1, x, b, h => by
    rw [a_below]
    apply bl_ge
    split
    · rw [lb_or, h]
      rfl
    · exact h
theorem a_pt_so {σ : aS} {v b : Nat} {so : Bool} (h : lb (a_points σ v so) b = true) : lb (a_points σ v false) b = true := by
  cases so
  · exact h
  · unfold a_points at h ⊢
    rw [if_pos rfl] at h
    rw [if_neg (by decide), lb_or, h]
    rfl
/-- the graph is closed: what is in it was accepted, is right, and points into it -/
def a_gi (σ : aS) (node : Nat) : Prop := ∀ q, q < 48 → ¬ σ.1 9 (48 * node + q) = 0 → 0 < σ.1 8 (48 * node + q) ∧ a_right σ (σ.1 8 (48 * node + q)) = true ∧ ∀ b, b < 64 → lb (a_points σ (σ.1 8 (48 * node + q)) false) b = true → b < 4 * (q / 4) ∧ ¬ σ.1 9 (48 * node + b) = 0
/-- x lies in the graph -/
def a_in (σ : aS) (node : Nat) (x : Int64) : Prop := ∀ b, b < 64 → lb x b = true → b < 48 ∧ ¬ σ.1 9 (48 * node + b) = 0
theorem a_gi_in {σ : aS} {node q : Nat} (hg : a_gi σ node) (hq : q < 48) (h9 : ¬ σ.1 9 (48 * node + q) = 0) (so : Bool) : a_in σ node (a_points σ (σ.1 8 (48 * node + q)) so) := fun b hb h => by
  have := (hg q hq h9).2.2 b hb (a_pt_so h)
  exact ⟨by omega, this.2⟩
theorem bl_bit {σ : aS} {node q : Nat} (hg : a_gi σ node) (hq : q < 48) (h9 : ¬ σ.1 9 (48 * node + q) = 0) (so : Bool) : a_below σ node so 48 (lN (2 ^ q)) = lN (2 ^ q) ||| a_below σ node so 48 (a_points σ (σ.1 8 (48 * node + q)) so) := by
  obtain ⟨g1, -, g3⟩ := hg q hq h9
  have e1 : a_below σ node so 48 (lN (2 ^ q)) = a_below σ node so (q + 1) (lN (2 ^ q)) := by
    have := bl_skip (σ := σ) (node := node) (so := so) (x := lN (2 ^ q)) (k := q + 1) (d := 48 - (q + 1)) (fun p h1 h2 => by rw [lb_pow (by omega)]; exact decide_eq_false (by omega))
    rw [show q + 1 + (48 - (q + 1)) = 48 from by omega] at this
    exact this
  have e2 : a_below σ node so 48 (a_points σ (σ.1 8 (48 * node + q)) so) = a_below σ node so q (a_points σ (σ.1 8 (48 * node + q)) so) := by
    have := bl_skip (σ := σ) (node := node) (so := so) (x := a_points σ (σ.1 8 (48 * node + q)) so) (k := q) (d := 48 - q) (fun p h1 h2 => by
      cases hp : lb (a_points σ (σ.1 8 (48 * node + q)) so) p
      · rfl
      · have := (g3 p (by omega) (a_pt_so hp)).1
        omega)
    rw [show q + (48 - q) = 48 from by omega] at this
    exact this
  have e3 : a_below σ node so q (lN (2 ^ q)) = lN (2 ^ q) := bl_id (fun p hp h => by
    rw [lb_pow (by omega)] at h
    have := of_decide_eq_true h
    omega)
  rw [e1, e2, a_below, if_pos ⟨by rw [lb_pow (by omega)]; exact decide_eq_true rfl, g1⟩, bl_or, e3]
def a_row (σ : aS) (node : Nat) (so : Bool) (q : Nat) : Int64 := if σ.1 9 (48 * node + q) = 0 then 0 else a_below σ node so 48 (a_points σ (σ.1 8 (48 * node + q)) so)
theorem bl_bit_row {σ : aS} {node q : Nat} (hg : a_gi σ node) (hq : q < 48) (h9 : ¬ σ.1 9 (48 * node + q) = 0) (so : Bool) : a_below σ node so 48 (lN (2 ^ q)) = lN (2 ^ q) ||| a_row σ node so q := by
  rw [a_row, if_neg h9]
  exact bl_bit hg hq h9 so
theorem bl_cut (x : Int64) {n : Nat} (hn : n < 63) : x &&& (lN (2 ^ (n + 1)) - 1) = if lb x n = true then (x &&& (lN (2 ^ n) - 1)) ||| lN (2 ^ n) else x &&& (lN (2 ^ n) - 1) := by
  apply lb_ext
  intro i hi
  have e : ∀ m, m < 64 → lb (x &&& (lN (2 ^ m) - 1)) i = (lb x i && decide (i < m)) := fun m hm => by rw [lb_and, lb_below hm hi]
  rw [e (n + 1) (by omega)]
  by_cases h : i = n
  · subst h
    rw [decide_eq_true (by omega)]
    cases hx : lb x i
    · rw [if_neg (by decide), e i (by omega), hx]
      rfl
    · rw [if_pos rfl, lb_or, lb_pow (by omega), decide_eq_true rfl, Bool.or_true]
      rfl
  · have e2 : decide (i < n + 1) = decide (i < n) := by
      by_cases h2 : i < n
      · rw [decide_eq_true h2, decide_eq_true (by omega)]
      · rw [decide_eq_false h2, decide_eq_false (by omega)]
    rw [e2]
    split
    · rw [lb_or, e n (by omega), lb_pow (by omega), decide_eq_false h, Bool.or_false]
    · rw [e n (by omega)]
theorem bl_0 (σ : aS) (node : Nat) (so : Bool) (n : Nat) : a_below σ node so n 0 = 0 := bl_id (fun q _ h => by rw [lb_0] at h; cases h)
/-- the class's way to what lies below a set in the graph -/
theorem bl_follow {σ : aS} {node : Nat} (hg : a_gi σ node) (so : Bool) {rows : Nat → Int64} (hr : ∀ q, q < 48 → rows q = a_row σ node so q) {x : Int64} (hx : a_in σ node x) : gr_follow rows x 48 = a_below σ node so 48 x := by
  have L : ∀ n, n ≤ 48 → gr_follow rows x n = x ||| a_below σ node so 48 (x &&& (lN (2 ^ n) - 1)) := by
    intro n
    induction n with
    | zero =>
      intro _
      rw [show x &&& (lN (2 ^ 0) - 1) = 0 from by
        rw [show lN (2 ^ 0) - 1 = 0 from by decide]
        apply lb_ext
        intro i _
        rw [lb_and, lb_0, Bool.and_false], bl_0, or_0]
      rfl
    | succ n ih =>
      intro hn
      rw [gr_follow, ih (by omega), bl_cut x (by omega)]
      split
      · rename_i hb
        have hb2 := hx n (by omega) hb
        rw [bl_or, bl_bit_row hg (by omega) hb2.2 so, hr n (by omega), or_a]
        apply lb_ext
        intro i hi
        simp only [lb_or]
        by_cases e : i = n
        · subst e
          rw [hb]
          rfl
        · rw [lb_pow (by omega), decide_eq_false e, Bool.false_or]
      · rfl
  rw [L 48 (Nat.le_refl _)]
  have e : x &&& (lN (2 ^ 48) - 1) = x := by
    apply lb_ext
    intro i hi
    rw [lb_and, lb_below (by decide) hi]
    cases hb : lb x i
    · rfl
    · rw [decide_eq_true (hx i hi hb).1]
      rfl
  rw [e]
  apply lb_ext
  intro i hi
  rw [lb_or]
  cases hb : lb x i
  · rfl
  · rw [bl_ge σ node so 48 x hb]
    rfl
theorem bl_G {σ : aS} {node : Nat} (hg : a_gi σ node) (so : Bool) : ∀ (n : Nat) {x : Int64}, n ≤ 48 → a_in σ node x → a_in σ node (a_below σ node so n x)
  | 0, _, _, h => h
  | n + 1, x, hn, h => by
    rw [a_below]
    apply bl_G hg so n (by omega)
    split
    · rename_i hc
      intro b hb hl
      rw [lb_or, Bool.or_eq_true] at hl
      rcases hl with hl | hl
      · exact h b hb hl
      · exact a_gi_in hg (by omega) (h n (by omega) hc.1).2 so b hb hl
    · exact h
theorem bl_cl {σ : aS} {node : Nat} (hg : a_gi σ node) (so : Bool) : ∀ (n : Nat) {x : Int64}, n ≤ 48 → a_in σ node x → (∀ q, n ≤ q → q < 64 → lb x q = true → ∀ b, b < 64 → lb (a_points σ (σ.1 8 (48 * node + q)) so) b = true → lb x b = true) → ∀ q, q < 64 → lb (a_below σ node so n x) q = true → ∀ b, b < 64 → lb (a_points σ (σ.1 8 (48 * node + q)) so) b = true → lb (a_below σ node so n x) b = true
  | 0, _, _, _, hc => fun q hq h b hb hp => hc q (Nat.zero_le _) hq h b hb hp
  | n + 1, x, hn, hx, hc => by
    rw [a_below]
    by_cases h : lb x n = true ∧ 0 < σ.1 8 (48 * node + n)
    · rw [if_pos h]
      have hn9 := (hx n (by omega) h.1).2
      have hpt := a_gi_in hg (by omega) hn9 so
      apply bl_cl hg so n (by omega)
      · intro b hb hl
        rw [lb_or, Bool.or_eq_true] at hl
        rcases hl with hl | hl
        · exact hx b hb hl
        · exact hpt b hb hl
      · intro q hq hq2 hl b hb hp
        rw [lb_or, Bool.or_eq_true] at hl ⊢
        rcases hl with hl | hl
        · by_cases e : q = n
          · subst e
            exact Or.inr hp
          · exact Or.inl (hc q (by omega) hq2 hl b hb hp)
        · have := ((hg n (by omega) hn9).2.2 q hq2 (a_pt_so hl)).1
          omega
    · rw [if_neg h]
      apply bl_cl hg so n (by omega) hx
      intro q hq hq2 hl b hb hp
      by_cases e : q = n
      · subst e
        exact absurd ⟨hl, (hg q (by omega) (hx q hq2 hl).2).1⟩ h
      · exact hc q (by omega) hq2 hl b hb hp
theorem bl_idem {σ : aS} {node : Nat} (hg : a_gi σ node) (so : Bool) {x : Int64} (hx : a_in σ node x) : a_below σ node so 48 (a_below σ node so 48 x) = a_below σ node so 48 x :=
  bl_id (fun q hq h _ b hb hp => bl_cl hg so 48 (Nat.le_refl _) hx (fun q h48 h64 hl => by
    have := (hx q h64 hl).1
    omega) q (by omega) h b hb hp)
/-- below depends on what was accepted in the graph alone -/
theorem bl_st {σ τ : aS} {node : Nat} (hg : a_gi σ node) (so : Bool) (h8 : ∀ q, q < 48 → ¬ σ.1 9 (48 * node + q) = 0 → τ.1 8 (48 * node + q) = σ.1 8 (48 * node + q) ∧ a_points τ (σ.1 8 (48 * node + q)) so = a_points σ (σ.1 8 (48 * node + q)) so) : ∀ (n : Nat) {x : Int64}, n ≤ 48 → a_in σ node x → a_below τ node so n x = a_below σ node so n x
  | 0, _, _, _ => rfl
  | n + 1, x, hn, hx => by
    rw [a_below, a_below]
    by_cases hb : lb x n = true
    · have hx2 := hx n (by omega) hb
      have h2 := h8 n (by omega) hx2.2
      rw [h2.1, h2.2]
      apply bl_st hg so h8 n (by omega)
      split
      · intro b hb2 hl
        rw [lb_or, Bool.or_eq_true] at hl
        rcases hl with hl | hl
        · exact hx b hb2 hl
        · exact a_gi_in hg (by omega) hx2.2 so b hb2 hl
      · exact hx
    · rw [if_neg (fun h => hb h.1), if_neg (fun h => hb h.1)]
      exact bl_st hg so h8 n (by omega) hx
theorem a_row_st {σ τ : aS} {node : Nat} (hg : a_gi σ node) (so : Bool) (h8 : ∀ q, q < 48 → ¬ σ.1 9 (48 * node + q) = 0 → τ.1 8 (48 * node + q) = σ.1 8 (48 * node + q) ∧ a_points τ (σ.1 8 (48 * node + q)) so = a_points σ (σ.1 8 (48 * node + q)) so) {q : Nat} (hq : q < 48) (h9 : τ.1 9 (48 * node + q) = σ.1 9 (48 * node + q)) : a_row τ node so q = a_row σ node so q := by
  unfold a_row
  rw [h9]
  split
  · rfl
  · rename_i h
    rw [(h8 q hq h).1, (h8 q hq h).2]
    exact bl_st hg so h8 48 (Nat.le_refl _) (a_gi_in hg hq h so)
