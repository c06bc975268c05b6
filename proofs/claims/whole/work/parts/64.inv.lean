/-! WHAT HOLDS OF THE NUMBERS AT EVERY TIME -/
def a_c0 (g : Nat → Nat) : Nat → Nat
  | 0 => 0
  | n + 1 => a_c0 g n + (if g n = 0 then 1 else 0)
theorem a_c0_eq {g g' : Nat → Nat} : ∀ {n : Nat}, (∀ i, i < n → g' i = g i) → a_c0 g' n = a_c0 g n
  | 0, _ => rfl
  | n + 1, h => by
    unfold a_c0
    rw [a_c0_eq (fun i hi => h i (by omega)), h n (by omega)]
theorem a_c0_le (g : Nat → Nat) : ∀ n, a_c0 g n ≤ n
  | 0 => Nat.le_refl 0
  | n + 1 => by
    have := a_c0_le g n
    unfold a_c0
    split <;> omega
theorem a_c0_up {g g' : Nat → Nat} {j : Nat} (h0 : g j = 0) (h1 : g' j ≠ 0) (h : ∀ i, i ≠ j → g' i = g i) : ∀ {n : Nat}, j < n → a_c0 g' n + 1 = a_c0 g n
  | 0, hj => by omega
  | n + 1, hj => by
    unfold a_c0
    by_cases e : n = j
    · subst e
      rw [if_neg h1, if_pos h0, a_c0_eq (g := g) (g' := g') (fun i hi => h i (by omega))]
    · have := a_c0_up h0 h1 h (n := n) (by omega)
      rw [h n e]
      omega
theorem a_c0_pos {g : Nat → Nat} {j n : Nat} (h0 : g j = 0) (hj : j < n) : 1 ≤ a_c0 g n := by
  have := a_c0_up (g := g) (g' := fun i => if i = j then 1 else g i) (j := j) h0 (by simp) (fun i hi => by simp [hi]) hj
  omega
/-- a transfer that was let in, or none -/
def a_tok (t : Nat) : Prop := t < 100000 ∧ t % 10 < 4 ∧ t % 1000 / 10 < 4
def a_own (σ : aS) : Nat := σ.1 14 0 + σ.1 14 1 + σ.1 14 2 + σ.1 14 3
/-- the numbers keep within their bounds; B: how many messages there may be, fy: who is silent -/
def aI (fy B : Nat) (σ : aS) : Prop :=
  (∀ v, σ.1 1 v < 48) ∧
  (∀ v, σ.1 2 v < 16) ∧
  (∀ v, a_tok (σ.1 4 v)) ∧
  (∀ j, a_tok (σ.1 19 j)) ∧
  (∀ j, σ.1 6 j ≤ 1) ∧
  (∀ j, σ.1 7 j ≤ 1) ∧
  (∀ j, σ.1 9 j ≤ 1) ∧
  (∀ j, σ.1 10 j ≤ 1) ∧
  (∀ j, σ.1 15 j ≤ 1) ∧
  (∀ n q, n < 4 → q < 48 → σ.1 8 (48 * n + q) ≤ σ.1 0 5 ∧ (σ.1 8 (48 * n + q) ≠ 0 → σ.1 1 (σ.1 8 (48 * n + q)) = q)) ∧
  (∀ j, σ.1 12 j < 80 ∧ σ.1 13 j < 80) ∧
  (∀ n, n < 4 → σ.1 18 (4 * n + 0) + σ.1 18 (4 * n + 1) + σ.1 18 (4 * n + 2) + σ.1 18 (4 * n + 3) = 400) ∧
  (∀ n, σ.1 14 n ≤ 12) ∧
  (∀ n, σ.1 16 n ≤ 3) ∧
  (∀ n, n < 4 → σ.1 17 n + a_c0 (fun q => σ.1 10 (48 * n + q)) 48 = 48) ∧
  (∀ n, σ.1 20 n ≤ 12) ∧
  (σ.1 0 4 ≤ 1) ∧
  (σ.1 0 10 ≤ 24) ∧
  (σ.1 0 5 ≤ a_own σ + σ.1 0 10) ∧
  (σ.1 0 12 + 4 * (48 - a_own σ) + 4 * a_c0 (σ.1 6) 192 + 4 * a_c0 (σ.1 7) 192 ≤ B) ∧
  (∀ k, k < σ.1 0 12 → σ.1 5 k < 3840 ∧ 1 ≤ σ.1 5 k % 80 ∧ σ.1 5 k % 80 ≤ σ.1 0 5 ∧ σ.1 5 k / 80 % 4 ≠ fy)
theorem aI_mk {fy B : Nat} {σ : aS} (pl : ∀ v, σ.1 1 v < 48) (st : ∀ v, σ.1 2 v < 16) (tr : ∀ v, a_tok (σ.1 4 v)) (qu : ∀ j, a_tok (σ.1 19 j)) (f6 : ∀ j, σ.1 6 j ≤ 1) (f7 : ∀ j, σ.1 7 j ≤ 1) (f9 : ∀ j, σ.1 9 j ≤ 1) (f10 : ∀ j, σ.1 10 j ≤ 1) (f15 : ∀ j, σ.1 15 j ≤ 1) (ac : ∀ n q, n < 4 → q < 48 → σ.1 8 (48 * n + q) ≤ σ.1 0 5 ∧ (σ.1 8 (48 * n + q) ≠ 0 → σ.1 1 (σ.1 8 (48 * n + q)) = q)) (vo : ∀ j, σ.1 12 j < 80 ∧ σ.1 13 j < 80) (bl : ∀ n, n < 4 → σ.1 18 (4 * n + 0) + σ.1 18 (4 * n + 1) + σ.1 18 (4 * n + 2) + σ.1 18 (4 * n + 3) = 400) (ow : ∀ n, σ.1 14 n ≤ 12) (cm : ∀ n, σ.1 16 n ≤ 3) (oc : ∀ n, n < 4 → σ.1 17 n + a_c0 (fun q => σ.1 10 (48 * n + q)) 48 = 48) (qd : ∀ n, σ.1 20 n ≤ 12) (be : σ.1 0 4 ≤ 1) (fo : σ.1 0 10 ≤ 24) (vs : σ.1 0 5 ≤ a_own σ + σ.1 0 10) (mm : σ.1 0 12 + 4 * (48 - a_own σ) + 4 * a_c0 (σ.1 6) 192 + 4 * a_c0 (σ.1 7) 192 ≤ B) (wt : ∀ k, k < σ.1 0 12 → σ.1 5 k < 3840 ∧ 1 ≤ σ.1 5 k % 80 ∧ σ.1 5 k % 80 ≤ σ.1 0 5 ∧ σ.1 5 k / 80 % 4 ≠ fy) : aI fy B σ := ⟨pl, st, tr, qu, f6, f7, f9, f10, f15, ac, vo, bl, ow, cm, oc, qd, be, fo, vs, mm, wt⟩
theorem aI.pl {fy B : Nat} {σ : aS} (h : aI fy B σ) : ∀ v, σ.1 1 v < 48 := h.1
theorem aI.st {fy B : Nat} {σ : aS} (h : aI fy B σ) : ∀ v, σ.1 2 v < 16 := h.2.1
theorem aI.tr {fy B : Nat} {σ : aS} (h : aI fy B σ) : ∀ v, a_tok (σ.1 4 v) := h.2.2.1
theorem aI.qu {fy B : Nat} {σ : aS} (h : aI fy B σ) : ∀ j, a_tok (σ.1 19 j) := h.2.2.2.1
theorem aI.f6 {fy B : Nat} {σ : aS} (h : aI fy B σ) : ∀ j, σ.1 6 j ≤ 1 := h.2.2.2.2.1
theorem aI.f7 {fy B : Nat} {σ : aS} (h : aI fy B σ) : ∀ j, σ.1 7 j ≤ 1 := h.2.2.2.2.2.1
theorem aI.f9 {fy B : Nat} {σ : aS} (h : aI fy B σ) : ∀ j, σ.1 9 j ≤ 1 := h.2.2.2.2.2.2.1
theorem aI.f10 {fy B : Nat} {σ : aS} (h : aI fy B σ) : ∀ j, σ.1 10 j ≤ 1 := h.2.2.2.2.2.2.2.1
theorem aI.f15 {fy B : Nat} {σ : aS} (h : aI fy B σ) : ∀ j, σ.1 15 j ≤ 1 := h.2.2.2.2.2.2.2.2.1
theorem aI.ac {fy B : Nat} {σ : aS} (h : aI fy B σ) : ∀ n q, n < 4 → q < 48 → σ.1 8 (48 * n + q) ≤ σ.1 0 5 ∧ (σ.1 8 (48 * n + q) ≠ 0 → σ.1 1 (σ.1 8 (48 * n + q)) = q) := h.2.2.2.2.2.2.2.2.2.1
theorem aI.vo {fy B : Nat} {σ : aS} (h : aI fy B σ) : ∀ j, σ.1 12 j < 80 ∧ σ.1 13 j < 80 := h.2.2.2.2.2.2.2.2.2.2.1
theorem aI.bl {fy B : Nat} {σ : aS} (h : aI fy B σ) : ∀ n, n < 4 → σ.1 18 (4 * n + 0) + σ.1 18 (4 * n + 1) + σ.1 18 (4 * n + 2) + σ.1 18 (4 * n + 3) = 400 := h.2.2.2.2.2.2.2.2.2.2.2.1
theorem aI.ow {fy B : Nat} {σ : aS} (h : aI fy B σ) : ∀ n, σ.1 14 n ≤ 12 := h.2.2.2.2.2.2.2.2.2.2.2.2.1
theorem aI.cm {fy B : Nat} {σ : aS} (h : aI fy B σ) : ∀ n, σ.1 16 n ≤ 3 := h.2.2.2.2.2.2.2.2.2.2.2.2.2.1
theorem aI.oc {fy B : Nat} {σ : aS} (h : aI fy B σ) : ∀ n, n < 4 → σ.1 17 n + a_c0 (fun q => σ.1 10 (48 * n + q)) 48 = 48 := h.2.2.2.2.2.2.2.2.2.2.2.2.2.2.1
theorem aI.qd {fy B : Nat} {σ : aS} (h : aI fy B σ) : ∀ n, σ.1 20 n ≤ 12 := h.2.2.2.2.2.2.2.2.2.2.2.2.2.2.2.1
theorem aI.be {fy B : Nat} {σ : aS} (h : aI fy B σ) : σ.1 0 4 ≤ 1 := h.2.2.2.2.2.2.2.2.2.2.2.2.2.2.2.2.1
theorem aI.fo {fy B : Nat} {σ : aS} (h : aI fy B σ) : σ.1 0 10 ≤ 24 := h.2.2.2.2.2.2.2.2.2.2.2.2.2.2.2.2.2.1
theorem aI.vs {fy B : Nat} {σ : aS} (h : aI fy B σ) : σ.1 0 5 ≤ a_own σ + σ.1 0 10 := h.2.2.2.2.2.2.2.2.2.2.2.2.2.2.2.2.2.2.1
theorem aI.mm {fy B : Nat} {σ : aS} (h : aI fy B σ) : σ.1 0 12 + 4 * (48 - a_own σ) + 4 * a_c0 (σ.1 6) 192 + 4 * a_c0 (σ.1 7) 192 ≤ B := h.2.2.2.2.2.2.2.2.2.2.2.2.2.2.2.2.2.2.2.1
theorem aI.wt {fy B : Nat} {σ : aS} (h : aI fy B σ) : ∀ k, k < σ.1 0 12 → σ.1 5 k < 3840 ∧ 1 ≤ σ.1 5 k % 80 ∧ σ.1 5 k % 80 ≤ σ.1 0 5 ∧ σ.1 5 k / 80 % 4 ≠ fy := h.2.2.2.2.2.2.2.2.2.2.2.2.2.2.2.2.2.2.2.2
theorem aI.v72 {fy B : Nat} {σ : aS} (hI : aI fy B σ) : σ.1 0 5 ≤ 72 := by
  have h1 := hI.vs
  have h2 := hI.fo
  have a0 := hI.ow 0
  have a1 := hI.ow 1
  have a2 := hI.ow 2
  have a3 := hI.ow 3
  unfold a_own at h1
  omega
theorem aI.a80 {fy B : Nat} {σ : aS} (hI : aI fy B σ) {n q : Nat} (hn : n < 4) (hq : q < 48) : σ.1 8 (48 * n + q) < 80 := by
  have h1 := (hI.ac n q hn hq).1
  have h2 := hI.v72
  omega
theorem aI.b400 {fy B : Nat} {σ : aS} (hI : aI fy B σ) {n k : Nat} (hn : n < 4) (hk : k < 4) : σ.1 18 (4 * n + k) ≤ 400 := by
  have h1 := hI.bl n hn
  have h2 : k = 0 ∨ k = 1 ∨ k = 2 ∨ k = 3 := by omega
  rcases h2 with rfl | rfl | rfl | rfl <;> omega
def a_make (σ : aS) (node t : Nat) : aS := if t = 0 ∨ σ.1 18 (4 * node + t / 10 % 10) < t / 1000 then σ else a_up (a_up σ 18 (4 * node + t / 10 % 10) (σ.1 18 (4 * node + t / 10 % 10) - t / 1000)) 18 (4 * node + t % 10) ((a_up σ 18 (4 * node + t / 10 % 10) (σ.1 18 (4 * node + t / 10 % 10) - t / 1000)).1 18 (4 * node + t % 10) + t / 1000)
/-- τ is σ but for the fields fs -/
def a_kp (fs : Nat → Prop) (σ τ : aS) : Prop := (∀ f j, ¬ fs f → τ.1 f j = σ.1 f j) ∧ τ.2 = σ.2
theorem a_kp_r (fs : Nat → Prop) (σ : aS) : a_kp fs σ σ := ⟨fun _ _ _ => rfl, rfl⟩
theorem a_kp_t {fs : Nat → Prop} {σ τ ρ : aS} (h : a_kp fs σ τ) (h2 : a_kp fs τ ρ) : a_kp fs σ ρ := ⟨fun f j hf => (h2.1 f j hf).trans (h.1 f j hf), h2.2.trans h.2⟩
theorem a_kp_u {fs : Nat → Prop} {f : Nat} (hf : fs f) (σ : aS) (j x : Nat) : a_kp fs σ (a_up σ f j x) := ⟨fun f' j' h => a_up_f σ j x j' (fun e => h (e ▸ hf)), rfl⟩
theorem a_kp_w {fs fs' : Nat → Prop} {σ τ : aS} (h : a_kp fs σ τ) (hs : ∀ f, fs f → fs' f) : a_kp fs' σ τ := ⟨fun f j hf => h.1 f j (fun x => hf (hs f x)), h.2⟩
theorem a_make_kp (σ : aS) (node t : Nat) : a_kp (fun f => f = 18) σ (a_make σ node t) := by
  unfold a_make
  split
  · exact a_kp_r _ _
  · exact a_kp_t (a_kp_u (fs := fun f => f = 18) (f := 18) rfl _ _ _) (a_kp_u (fs := fun f => f = 18) (f := 18) rfl _ _ _)
theorem a_mv_bl (σ : aS) {n node a b x : Nat} (ha : a < 4) (hb : b < 4) (hge : x ≤ σ.1 18 (4 * node + a)) (h0 : σ.1 18 (4 * n + 0) + σ.1 18 (4 * n + 1) + σ.1 18 (4 * n + 2) + σ.1 18 (4 * n + 3) = 400) {τ : aS} (hτ : τ = a_up (a_up σ 18 (4 * node + a) (σ.1 18 (4 * node + a) - x)) 18 (4 * node + b) ((a_up σ 18 (4 * node + a) (σ.1 18 (4 * node + a) - x)).1 18 (4 * node + b) + x)) : τ.1 18 (4 * n + 0) + τ.1 18 (4 * n + 1) + τ.1 18 (4 * n + 2) + τ.1 18 (4 * n + 3) = 400 := by
  subst hτ
  simp only [a_up_at, true_and]
  by_cases e : n = node
  · subst e
    have ha : a = 0 ∨ a = 1 ∨ a = 2 ∨ a = 3 := by omega
    have hb : b = 0 ∨ b = 1 ∨ b = 2 ∨ b = 3 := by omega
    rcases ha with rfl | rfl | rfl | rfl <;> rcases hb with rfl | rfl | rfl | rfl <;> simp at h0 hge ⊢ <;> omega
  · have e1 : ∀ i, i < 4 → ¬ 4 * n + i = 4 * node + a := fun i hi => by omega
    have e2 : ∀ i, i < 4 → ¬ 4 * n + i = 4 * node + b := fun i hi => by omega
    rw [if_neg (e2 0 (by decide)), if_neg (e1 0 (by decide)), if_neg (e2 1 (by decide)), if_neg (e1 1 (by decide)), if_neg (e2 2 (by decide)), if_neg (e1 2 (by decide)), if_neg (e2 3 (by decide)), if_neg (e1 3 (by decide))]
    exact h0
theorem a_make_bl {σ : aS} {n node t : Nat} (h0 : σ.1 18 (4 * n + 0) + σ.1 18 (4 * n + 1) + σ.1 18 (4 * n + 2) + σ.1 18 (4 * n + 3) = 400) (ht : a_tok t) : (a_make σ node t).1 18 (4 * n + 0) + (a_make σ node t).1 18 (4 * n + 1) + (a_make σ node t).1 18 (4 * n + 2) + (a_make σ node t).1 18 (4 * n + 3) = 400 := by
  unfold a_make
  split
  · exact h0
  · rename_i hc
    obtain ⟨t1, t2, t3⟩ := ht
    exact a_mv_bl σ (by omega) (by omega) (by omega) h0 rfl
/-- the invariant of another state: what its fields need anew, where few of them changed -/
theorem aI_bk {fy B : Nat} {σ τ : aS} (hI : aI fy B σ) (hk : a_kp (fun f => f = 10 ∨ f = 11 ∨ f = 16 ∨ f = 17 ∨ f = 18 ∨ f = 21) σ τ) (h10 : ∀ j, τ.1 10 j ≤ 1) (h16 : ∀ n, τ.1 16 n ≤ 3) (h18 : ∀ n, n < 4 → τ.1 18 (4 * n + 0) + τ.1 18 (4 * n + 1) + τ.1 18 (4 * n + 2) + τ.1 18 (4 * n + 3) = 400) (hoc : ∀ n, n < 4 → τ.1 17 n + a_c0 (fun q => τ.1 10 (48 * n + q)) 48 = 48) : aI fy B τ := by
  have k : ∀ f j, ¬ (f = 10 ∨ f = 11 ∨ f = 16 ∨ f = 17 ∨ f = 18 ∨ f = 21) → τ.1 f j = σ.1 f j := hk.1
  have k0 := fun j => k 0 j (by decide)
  have k14 := fun j => k 14 j (by decide)
  have e6 : τ.1 6 = σ.1 6 := funext (fun j => k 6 j (by decide))
  have e7 : τ.1 7 = σ.1 7 := funext (fun j => k 7 j (by decide))
  have eo : a_own τ = a_own σ := by unfold a_own; rw [k14, k14, k14, k14]
  exact (aI_mk (fun v => by rw [k 1 v (by decide)]; exact hI.pl v) (fun v => by rw [k 2 v (by decide)]; exact hI.st v) (fun v => by rw [k 4 v (by decide)]; exact hI.tr v) (fun v => by rw [k 19 v (by decide)]; exact hI.qu v) (fun v => by rw [k 6 v (by decide)]; exact hI.f6 v) (fun v => by rw [k 7 v (by decide)]; exact hI.f7 v) (fun v => by rw [k 9 v (by decide)]; exact hI.f9 v) h10 (fun v => by rw [k 15 v (by decide)]; exact hI.f15 v) (fun n q hn hq => by rw [k 8 _ (by decide), k0, k 1 _ (by decide)]; exact hI.ac n q hn hq) (fun v => by rw [k 12 v (by decide), k 13 v (by decide)]; exact hI.vo v) h18 (fun v => by rw [k14]; exact hI.ow v) h16 hoc (fun v => by rw [k 20 v (by decide)]; exact hI.qd v) (by rw [k0]; exact hI.be) (by rw [k0]; exact hI.fo) (by rw [k0, k0, eo]; exact hI.vs) (by rw [k0, e6, e7, eo]; exact hI.mm) (fun i hi => by rw [k0] at hi; rw [k 5 i (by decide), k0]; exact hI.wt i hi))
def a_ordS (σ : aS) (node : Nat) (all : Int64) (q : Nat) : aS := if lb all q = true ∧ σ.1 10 (48 * node + q) = 0 then a_make (a_up (a_up (a_up σ 10 (48 * node + q) 1) 11 (48 * node + σ.1 17 node) q) 17 node (σ.1 17 node + 1)) node (σ.1 4 (σ.1 8 (48 * node + q))) else σ
def a_ordL (node : Nat) (all : Int64) : Nat → aS → aS
  | 0, σ => σ
  | q + 1, σ => a_ordS (a_ordL node all q σ) node all q
def a_ordB (σ : aS) (node place : Nat) : aS := a_ordL node (a_below σ node false 48 (lN (2 ^ place))) 48 σ
def a_F (f : Nat) : Prop := f = 10 ∨ f = 11 ∨ f = 16 ∨ f = 17 ∨ f = 18 ∨ f = 21
def a_G (f : Nat) : Prop := f = 10 ∨ f = 11 ∨ f = 17 ∨ f = 18
theorem a_ordS_kp (σ : aS) (node : Nat) (all : Int64) (q : Nat) : a_kp a_G σ (a_ordS σ node all q) := by
  unfold a_ordS
  split
  · exact a_kp_t (a_kp_t (a_kp_t (a_kp_u (fs := a_G) (f := 10) (by unfold a_G; decide) _ _ _) (a_kp_u (fs := a_G) (f := 11) (by unfold a_G; decide) _ _ _)) (a_kp_u (fs := a_G) (f := 17) (by unfold a_G; decide) _ _ _)) (a_kp_w (a_make_kp _ _ _) (fun f hf => by unfold a_G; omega))
  · exact a_kp_r _ _
theorem a_ordL_kp (node : Nat) (all : Int64) (σ : aS) : ∀ q, a_kp a_G σ (a_ordL node all q σ)
  | 0 => a_kp_r _ _
  | q + 1 => a_kp_t (a_ordL_kp node all σ q) (a_ordS_kp _ node all q)
theorem a_GF {σ τ : aS} (h : a_kp a_G σ τ) : a_kp a_F σ τ := a_kp_w h (fun f hf => by unfold a_F; unfold a_G at hf; omega)
theorem aI_ordS {fy B : Nat} {σ : aS} (hI : aI fy B σ) {node q : Nat} (all : Int64) (hn : node < 4) (hq : q < 48) : aI fy B (a_ordS σ node all q) := by
  have hk := a_ordS_kp σ node all q
  refine aI_bk hI (a_GF hk) ?_ (fun n => by rw [hk.1 16 n (by unfold a_G; decide)]; exact hI.cm n) ?_ ?_
  · intro j
    unfold a_ordS
    split
    · rw [(a_make_kp _ _ _).1 10 j (by decide), a_up_f _ _ _ _ (by decide), a_up_f _ _ _ _ (by decide), a_up_at]
      split
      · decide
      · exact hI.f10 j
    · exact hI.f10 j
  · intro n hn
    unfold a_ordS
    split
    · exact a_make_bl (hI.bl n hn) (hI.tr _)
    · exact hI.bl n hn
  · intro n hn'
    unfold a_ordS
    split
    · rename_i hc
      rw [(a_make_kp _ _ _).1 17 n (by decide)]
      have e10 : ∀ j, (a_make (a_up (a_up (a_up σ 10 (48 * node + q) 1) 11 (48 * node + σ.1 17 node) q) 17 node (σ.1 17 node + 1)) node (σ.1 4 (σ.1 8 (48 * node + q)))).1 10 j = if j = 48 * node + q then 1 else σ.1 10 j := fun j => by
        rw [(a_make_kp _ _ _).1 10 j (by decide), a_up_f _ _ _ _ (by decide), a_up_f _ _ _ _ (by decide), a_up_at]
        simp
      have hoc := hI.oc n hn'
      by_cases e : n = node
      · subst e
        rw [a_up_s]
        have hu := a_c0_up (g := fun i => σ.1 10 (48 * n + i)) (g' := fun i => (a_make (a_up (a_up (a_up σ 10 (48 * n + q) 1) 11 (48 * n + σ.1 17 n) q) 17 n (σ.1 17 n + 1)) n (σ.1 4 (σ.1 8 (48 * n + q)))).1 10 (48 * n + i)) (j := q) hc.2 (by simp only [e10]; simp) (fun i hi => by simp only [e10]; rw [if_neg (by omega)]) hq
        omega
      · rw [a_up_j _ _ _ _ e, a_up_f _ _ _ _ (by decide), a_up_f _ _ _ _ (by decide), a_c0_eq (g := fun i => σ.1 10 (48 * n + i)) (fun i hi => by simp only [e10]; rw [if_neg (by omega)])]
        exact hoc
    · exact hI.oc n hn'
theorem aI_ordL {fy B : Nat} {σ : aS} (hI : aI fy B σ) {node : Nat} (all : Int64) (hn : node < 4) : ∀ q, q ≤ 48 → aI fy B (a_ordL node all q σ)
  | 0, _ => hI
  | q + 1, hq => aI_ordS (aI_ordL hI all hn q (by omega)) all hn (by omega)
theorem aI_ordB {fy B : Nat} {σ : aS} (hI : aI fy B σ) {node : Nat} (place : Nat) (hn : node < 4) : aI fy B (a_ordB σ node place) := aI_ordL hI _ hn 48 (Nat.le_refl _)
