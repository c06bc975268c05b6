/-! a node's cells, held against the numbers -/
def a_setF (σ : aS) (f node : Nat) : Nat → Int64
  | 0 => 0
  | q + 1 => if σ.1 f (48 * node + q) = 0 then a_setF σ f node q else a_setF σ f node q ||| lN (2 ^ q)
theorem a_set9 (σ : aS) (node : Nat) : ∀ n, a_setF σ 9 node n = a_graphN σ node n
  | 0 => rfl
  | n + 1 => by rw [a_setF, a_graphN, a_set9 σ node n]
theorem lb_setF (σ : aS) (f node : Nat) {b : Nat} (hb : b < 64) : ∀ n, n ≤ 64 → lb (a_setF σ f node n) b = (decide (b < n) && !decide (σ.1 f (48 * node + b) = 0))
  | 0, _ => by rw [a_setF, lb_0, decide_eq_false (by omega), Bool.false_and]
  | n + 1, hn => by
    rw [a_setF]
    have ih := lb_setF σ f node hb n (by omega)
    by_cases e : b = n
    · subst e
      rw [decide_eq_false (by omega), Bool.false_and] at ih
      rw [decide_eq_true (by omega), Bool.true_and]
      split
      · rename_i h0
        rw [ih, decide_eq_true h0]
        rfl
      · rename_i h0
        rw [lb_or, lb_pow (by omega), decide_eq_true rfl, Bool.or_true, decide_eq_false h0]
        rfl
    · have e1 : decide (b < n + 1) = decide (b < n) := by
        by_cases h : b < n
        · rw [decide_eq_true h, decide_eq_true (by omega)]
        · rw [decide_eq_false h, decide_eq_false (by omega)]
      rw [e1, ← ih]
      split
      · rfl
      · rw [lb_or, lb_pow (by omega), decide_eq_false e, Bool.or_false]
theorem lb_set {σ : aS} {f node q : Nat} (hq : q < 48) : lb (a_setF σ f node 48) q = !decide (σ.1 f (48 * node + q) = 0) := by
  rw [lb_setF σ f node (by omega) 48 (by decide), decide_eq_true hq, Bool.true_and]
theorem a_setF_up (σ : aS) (f node : Nat) {q : Nat} (hq : q < 48) : a_setF (a_up σ f (48 * node + q) 1) f node 48 = a_setF σ f node 48 ||| lN (2 ^ q) := by
  apply lb_ext
  intro b hb
  rw [lb_or, lb_setF _ _ _ hb 48 (by decide), lb_setF _ _ _ hb 48 (by decide), lb_pow (by omega)]
  by_cases e : b = q
  · subst e
    rw [a_up_s, decide_eq_true hq, decide_eq_true rfl, Bool.or_true]
    rfl
  · rw [a_up_j _ _ _ _ (by omega), decide_eq_false e, Bool.or_false]
theorem a_setF_eq {σ τ : aS} {f node : Nat} (h : ∀ q, q < 48 → τ.1 f (48 * node + q) = σ.1 f (48 * node + q)) : a_setF τ f node 48 = a_setF σ f node 48 := by
  apply lb_ext
  intro b hb
  rw [lb_setF _ _ _ hb 48 (by decide), lb_setF _ _ _ hb 48 (by decide)]
  by_cases e : b < 48
  · rw [h b e]
  · rw [decide_eq_false e]
    rfl
def slv (fy : Nat) : Int32 := if fy < 4 then nI fy else -1
def a_cls (m : Nat) : Nat := m % 80 * 64 + m / 80 % 4 * 16 + m / 320 % 4 * 4 + m / 1280
def nR (cn : Int32) (fy node : Nat) (σ : aS) (S : mw_S) : Prop :=
  (S.1 0 0 = nI node) ∧
  (S.1 0 1 = cn) ∧
  (S.2 0 10 = a_setF σ 6 node 48) ∧
  (S.2 0 11 = a_setF σ 7 node 48) ∧
  (S.1 0 12 = nI (σ.1 14 node)) ∧
  (S.1 0 13 = nI (σ.1 16 node)) ∧
  (S.1 0 14 = nI (σ.1 15 node)) ∧
  (S.2 1 4 = a_setF σ 9 node 48) ∧
  (∀ q, q < 48 → S.1 2 q = nI (σ.1 8 (48 * node + q))) ∧
  (∀ q, q < 48 → S.2 3 q = a_row σ node false q) ∧
  (∀ q, q < 48 → S.2 4 q = a_row σ node true q) ∧
  (S.2 5 2 = a_setF σ 10 node 48) ∧
  (S.1 5 3 = nI (σ.1 17 node)) ∧
  (∀ k, k < σ.1 17 node → S.1 6 k = nI (σ.1 11 (48 * node + k))) ∧
  (∀ j, j < 4 → S.1 7 j = nI (σ.1 18 (4 * node + j))) ∧
  (S.1 8 1 = nI (σ.1 20 node)) ∧
  (∀ k, k < σ.1 20 node → S.1 9 k = nI (σ.1 19 (12 * node + k))) ∧
  (∀ j, j < 192 → S.1 11 j = nI (σ.1 12 (192 * node + j))) ∧
  (∀ j, j < 192 → S.1 13 j = nI (σ.1 13 (192 * node + j))) ∧
  (S.1 15 4 = nI (σ.1 0 5)) ∧
  (∀ v, v < 73 → S.1 16 v = nI (σ.1 1 v)) ∧
  (∀ v, v < 73 → S.1 17 v = nI (σ.1 2 v)) ∧
  (∀ v, v < 73 → S.2 18 v = σ.2.1 v) ∧
  (∀ v, v < 73 → S.1 19 v = nI (σ.1 4 v)) ∧
  (S.1 20 0 = slv fy) ∧
  (S.1 20 2 = nI (σ.1 0 12)) ∧
  (∀ k, k < σ.1 0 12 → S.1 21 k = nI (a_cls (σ.1 5 k)))
theorem nR_mk {cn : Int32} {fy node : Nat} {σ : aS} {S : mw_S} (se : S.1 0 0 = nI node) (co : S.1 0 1 = cn) (ec : S.2 0 10 = a_setF σ 6 node 48) (rd : S.2 0 11 = a_setF σ 7 node 48) (ow : S.1 0 12 = nI (σ.1 14 node)) (cm : S.1 0 13 = nI (σ.1 16 node)) (lw : S.1 0 14 = nI (σ.1 15 node)) (ad : S.2 1 4 = a_setF σ 9 node 48) (ac : ∀ q, q < 48 → S.1 2 q = nI (σ.1 8 (48 * node + q))) (pa : ∀ q, q < 48 → S.2 3 q = a_row σ node false q) (sp : ∀ q, q < 48 → S.2 4 q = a_row σ node true q) (en : S.2 5 2 = a_setF σ 10 node 48) (oc : S.1 5 3 = nI (σ.1 17 node)) (od : ∀ k, k < σ.1 17 node → S.1 6 k = nI (σ.1 11 (48 * node + k))) (ba : ∀ j, j < 4 → S.1 7 j = nI (σ.1 18 (4 * node + j))) (qc : S.1 8 1 = nI (σ.1 20 node)) (qu : ∀ k, k < σ.1 20 node → S.1 9 k = nI (σ.1 19 (12 * node + k))) (ev : ∀ j, j < 192 → S.1 11 j = nI (σ.1 12 (192 * node + j))) (rv : ∀ j, j < 192 → S.1 13 j = nI (σ.1 13 (192 * node + j))) (vn : S.1 15 4 = nI (σ.1 0 5)) (vp : ∀ v, v < 73 → S.1 16 v = nI (σ.1 1 v)) (vs : ∀ v, v < 73 → S.1 17 v = nI (σ.1 2 v)) (vw : ∀ v, v < 73 → S.2 18 v = σ.2.1 v) (vt : ∀ v, v < 73 → S.1 19 v = nI (σ.1 4 v)) (si : S.1 20 0 = slv fy) (mc : S.1 20 2 = nI (σ.1 0 12)) (mw : ∀ k, k < σ.1 0 12 → S.1 21 k = nI (a_cls (σ.1 5 k))) : nR cn fy node σ S := ⟨se, co, ec, rd, ow, cm, lw, ad, ac, pa, sp, en, oc, od, ba, qc, qu, ev, rv, vn, vp, vs, vw, vt, si, mc, mw⟩
theorem nR.se {cn : Int32} {fy node : Nat} {σ : aS} {S : mw_S} (h : nR cn fy node σ S) : S.1 0 0 = nI node := h.1
theorem nR.co {cn : Int32} {fy node : Nat} {σ : aS} {S : mw_S} (h : nR cn fy node σ S) : S.1 0 1 = cn := h.2.1
theorem nR.ec {cn : Int32} {fy node : Nat} {σ : aS} {S : mw_S} (h : nR cn fy node σ S) : S.2 0 10 = a_setF σ 6 node 48 := h.2.2.1
theorem nR.rd {cn : Int32} {fy node : Nat} {σ : aS} {S : mw_S} (h : nR cn fy node σ S) : S.2 0 11 = a_setF σ 7 node 48 := h.2.2.2.1
theorem nR.ow {cn : Int32} {fy node : Nat} {σ : aS} {S : mw_S} (h : nR cn fy node σ S) : S.1 0 12 = nI (σ.1 14 node) := h.2.2.2.2.1
theorem nR.cm {cn : Int32} {fy node : Nat} {σ : aS} {S : mw_S} (h : nR cn fy node σ S) : S.1 0 13 = nI (σ.1 16 node) := h.2.2.2.2.2.1
theorem nR.lw {cn : Int32} {fy node : Nat} {σ : aS} {S : mw_S} (h : nR cn fy node σ S) : S.1 0 14 = nI (σ.1 15 node) := h.2.2.2.2.2.2.1
theorem nR.ad {cn : Int32} {fy node : Nat} {σ : aS} {S : mw_S} (h : nR cn fy node σ S) : S.2 1 4 = a_setF σ 9 node 48 := h.2.2.2.2.2.2.2.1
theorem nR.ac {cn : Int32} {fy node : Nat} {σ : aS} {S : mw_S} (h : nR cn fy node σ S) : ∀ q, q < 48 → S.1 2 q = nI (σ.1 8 (48 * node + q)) := h.2.2.2.2.2.2.2.2.1
theorem nR.pa {cn : Int32} {fy node : Nat} {σ : aS} {S : mw_S} (h : nR cn fy node σ S) : ∀ q, q < 48 → S.2 3 q = a_row σ node false q := h.2.2.2.2.2.2.2.2.2.1
theorem nR.sp {cn : Int32} {fy node : Nat} {σ : aS} {S : mw_S} (h : nR cn fy node σ S) : ∀ q, q < 48 → S.2 4 q = a_row σ node true q := h.2.2.2.2.2.2.2.2.2.2.1
theorem nR.en {cn : Int32} {fy node : Nat} {σ : aS} {S : mw_S} (h : nR cn fy node σ S) : S.2 5 2 = a_setF σ 10 node 48 := h.2.2.2.2.2.2.2.2.2.2.2.1
theorem nR.oc {cn : Int32} {fy node : Nat} {σ : aS} {S : mw_S} (h : nR cn fy node σ S) : S.1 5 3 = nI (σ.1 17 node) := h.2.2.2.2.2.2.2.2.2.2.2.2.1
theorem nR.od {cn : Int32} {fy node : Nat} {σ : aS} {S : mw_S} (h : nR cn fy node σ S) : ∀ k, k < σ.1 17 node → S.1 6 k = nI (σ.1 11 (48 * node + k)) := h.2.2.2.2.2.2.2.2.2.2.2.2.2.1
theorem nR.ba {cn : Int32} {fy node : Nat} {σ : aS} {S : mw_S} (h : nR cn fy node σ S) : ∀ j, j < 4 → S.1 7 j = nI (σ.1 18 (4 * node + j)) := h.2.2.2.2.2.2.2.2.2.2.2.2.2.2.1
theorem nR.qc {cn : Int32} {fy node : Nat} {σ : aS} {S : mw_S} (h : nR cn fy node σ S) : S.1 8 1 = nI (σ.1 20 node) := h.2.2.2.2.2.2.2.2.2.2.2.2.2.2.2.1
theorem nR.qu {cn : Int32} {fy node : Nat} {σ : aS} {S : mw_S} (h : nR cn fy node σ S) : ∀ k, k < σ.1 20 node → S.1 9 k = nI (σ.1 19 (12 * node + k)) := h.2.2.2.2.2.2.2.2.2.2.2.2.2.2.2.2.1
theorem nR.ev {cn : Int32} {fy node : Nat} {σ : aS} {S : mw_S} (h : nR cn fy node σ S) : ∀ j, j < 192 → S.1 11 j = nI (σ.1 12 (192 * node + j)) := h.2.2.2.2.2.2.2.2.2.2.2.2.2.2.2.2.2.1
theorem nR.rv {cn : Int32} {fy node : Nat} {σ : aS} {S : mw_S} (h : nR cn fy node σ S) : ∀ j, j < 192 → S.1 13 j = nI (σ.1 13 (192 * node + j)) := h.2.2.2.2.2.2.2.2.2.2.2.2.2.2.2.2.2.2.1
theorem nR.vn {cn : Int32} {fy node : Nat} {σ : aS} {S : mw_S} (h : nR cn fy node σ S) : S.1 15 4 = nI (σ.1 0 5) := h.2.2.2.2.2.2.2.2.2.2.2.2.2.2.2.2.2.2.2.1
theorem nR.vp {cn : Int32} {fy node : Nat} {σ : aS} {S : mw_S} (h : nR cn fy node σ S) : ∀ v, v < 73 → S.1 16 v = nI (σ.1 1 v) := h.2.2.2.2.2.2.2.2.2.2.2.2.2.2.2.2.2.2.2.2.1
theorem nR.vs {cn : Int32} {fy node : Nat} {σ : aS} {S : mw_S} (h : nR cn fy node σ S) : ∀ v, v < 73 → S.1 17 v = nI (σ.1 2 v) := h.2.2.2.2.2.2.2.2.2.2.2.2.2.2.2.2.2.2.2.2.2.1
theorem nR.vw {cn : Int32} {fy node : Nat} {σ : aS} {S : mw_S} (h : nR cn fy node σ S) : ∀ v, v < 73 → S.2 18 v = σ.2.1 v := h.2.2.2.2.2.2.2.2.2.2.2.2.2.2.2.2.2.2.2.2.2.2.1
theorem nR.vt {cn : Int32} {fy node : Nat} {σ : aS} {S : mw_S} (h : nR cn fy node σ S) : ∀ v, v < 73 → S.1 19 v = nI (σ.1 4 v) := h.2.2.2.2.2.2.2.2.2.2.2.2.2.2.2.2.2.2.2.2.2.2.2.1
theorem nR.si {cn : Int32} {fy node : Nat} {σ : aS} {S : mw_S} (h : nR cn fy node σ S) : S.1 20 0 = slv fy := h.2.2.2.2.2.2.2.2.2.2.2.2.2.2.2.2.2.2.2.2.2.2.2.2.1
theorem nR.mc {cn : Int32} {fy node : Nat} {σ : aS} {S : mw_S} (h : nR cn fy node σ S) : S.1 20 2 = nI (σ.1 0 12) := h.2.2.2.2.2.2.2.2.2.2.2.2.2.2.2.2.2.2.2.2.2.2.2.2.2.1
theorem nR.mw {cn : Int32} {fy node : Nat} {σ : aS} {S : mw_S} (h : nR cn fy node σ S) : ∀ k, k < σ.1 0 12 → S.1 21 k = nI (a_cls (σ.1 5 k)) := h.2.2.2.2.2.2.2.2.2.2.2.2.2.2.2.2.2.2.2.2.2.2.2.2.2.2
