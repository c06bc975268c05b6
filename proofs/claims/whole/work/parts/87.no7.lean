/-! the node's methods: its own vertex, and how it goes on -/
theorem tb_four (x : Int64) (k s : Nat) : (four x k).testBit s = (decide (s < 4) && lb x (k + s)) := by
  by_cases h : s < 4
  · rw [decide_eq_true h, Bool.true_and]
    have h4 : s = 0 ∨ s = 1 ∨ s = 2 ∨ s = 3 := by omega
    unfold four
    rcases h4 with rfl | rfl | rfl | rfl
    · rw [Nat.add_zero]
      cases lb x k <;> cases lb x (k + 1) <;> cases lb x (k + 2) <;> cases lb x (k + 3) <;> rfl
    · cases lb x k <;> cases lb x (k + 1) <;> cases lb x (k + 2) <;> cases lb x (k + 3) <;> rfl
    · cases lb x k <;> cases lb x (k + 1) <;> cases lb x (k + 2) <;> cases lb x (k + 3) <;> rfl
    · cases lb x k <;> cases lb x (k + 1) <;> cases lb x (k + 2) <;> cases lb x (k + 3) <;> rfl
  · rw [decide_eq_false h, Bool.false_and]
    have hpw : 2 ^ 4 ≤ 2 ^ s := Nat.pow_le_pow_right (by decide) (by omega)
    exact Nat.testBit_lt_two_pow (by have := four_lt x k; omega)
theorem in_str (σ : aS) (node : Nat) {r : Nat} (hr : 2 ≤ r) (hr2 : r ≤ 12) : a_in σ node (lN (a_inR σ node (r - 1) 4 * 2 ^ (4 * (r - 2)))) := by
  intro b hb h
  rw [lb_shl (by omega), ← inR_four σ node (r := r - 1) (by omega) (by omega), tb_four] at h
  simp only [Bool.and_eq_true, decide_eq_true_eq] at h
  obtain ⟨-, h1, h2, h3⟩ := h
  have h4 : b < 48 := by omega
  rw [show 4 * (r - 1 - 1) + (b - 4 * (r - 2)) = b from by omega, lb_set h4] at h3
  refine ⟨h4, fun h0 => ?_⟩
  rw [decide_eq_true h0] at h3
  cases h3
def wkC (σ : aS) (node : Nat) (x : Int64 × Int64) : Prop := a_in σ node x.2 ∧ a_below σ node false 48 x.2 = x.2
theorem wk1_eq {σ : aS} {node : Nat} (hg : a_gi σ node) {paths : Nat → Int64} (hp : ∀ q, q < 48 → paths q = a_row σ node false q) {q : Nat} (hq : q < 48) {x : Int64 × Int64} (hx : wkC σ node x) : gr_wk1 paths (a_setF σ 9 node 48) q x = a_wkS σ node q x ∧ wkC σ node (a_wkS σ node q x) := by
  unfold gr_wk1 a_wkS
  rw [lb_set hq]
  by_cases h9 : σ.1 9 (48 * node + q) = 0
  · rw [decide_eq_true h9, if_neg (fun h => absurd h.1 (by decide)), if_neg (fun h => by omega)]
    exact ⟨rfl, hx⟩
  · rw [decide_eq_false h9]
    by_cases hb : lb x.2 q = false
    · have hin : a_in σ node (x.2 ||| lN (2 ^ q)) := fun b hb2 hl => by
        rw [lb_or, Bool.or_eq_true] at hl
        rcases hl with hl | hl
        · exact hx.1 b hb2 hl
        · rw [lb_pow (by omega)] at hl
          have := of_decide_eq_true hl
          subst this
          exact ⟨hq, h9⟩
      rw [if_pos ⟨rfl, hb⟩, if_pos ⟨by omega, hb⟩]
      refine ⟨?_, bl_G hg false 48 (Nat.le_refl _) hin, bl_idem hg false hin⟩
      rw [bl_or, hx.2, bl_bit_row hg hq h9 false, hp q hq]
    · rw [if_neg (fun h => hb h.2), if_neg (fun h => hb h.2)]
      exact ⟨rfl, hx⟩
theorem wkr_eq {σ : aS} {node : Nat} (hg : a_gi σ node) {paths : Nat → Int64} (hp : ∀ q, q < 48 → paths q = a_row σ node false q) {b : Nat} (hb : b < 12) {x : Int64 × Int64} (hx : wkC σ node x) : ∀ k, k ≤ 4 → gr_wkr paths (a_setF σ 9 node 48) b k x = a_wk4 σ node b k x ∧ wkC σ node (a_wk4 σ node b k x)
  | 0, _ => ⟨rfl, hx⟩
  | k + 1, hk => by
    obtain ⟨h1, h2⟩ := wkr_eq hg hp hb hx k (by omega)
    rw [gr_wkr, a_wk4, h1]
    exact wk1_eq hg hp (by omega) h2
theorem wk_eq {σ : aS} {node : Nat} (hg : a_gi σ node) {paths : Nat → Int64} (hp : ∀ q, q < 48 → paths q = a_row σ node false q) : ∀ (b : Nat) {x : Int64 × Int64}, b ≤ 12 → wkC σ node x → gr_wk paths (a_setF σ 9 node 48) b x = a_wkL σ node b x
  | 0, _, _, _ => rfl
  | b + 1, x, hb, hx => by
    obtain ⟨h1, h2⟩ := wkr_eq hg hp (b := b) (by omega) hx 4 (Nat.le_refl _)
    rw [gr_wk, a_wkL, h1]
    exact wk_eq hg hp b (by omega) h2
theorem wkC_of {σ : aS} {node : Nat} (hg : a_gi σ node) {X : Int64} (hin : a_in σ node X) : wkC σ node (0, a_below σ node false 48 X) := And.intro (bl_G hg false 48 (Nat.le_refl _) hin) (bl_idem hg false hin)
theorem mkW_of {σ : aS} {node n : Nat} (hg : a_gi σ node) (hn : n ≤ 12) {paths : Nat → Int64} (hp : ∀ q, q < 48 → paths q = a_row σ node false q) {X : Int64} (hin : a_in σ node X) : gr_wk paths (a_setF σ 9 node 48) n (0, gr_follow paths X 48) = a_wkL σ node n (0, a_below σ node false 48 X) := by
  rw [bl_follow hg false hp hin]
  exact wk_eq hg hp n hn (wkC_of hg hin)
theorem a_mkW_2 (σ : aS) (node : Nat) {r : Nat} (hr : 2 ≤ r) : a_mkW σ node r = (a_wkL σ node (r - 2) (0, a_below σ node false 48 (lN (a_inR σ node (r - 1) 4 * 2 ^ (4 * (r - 2)))))).1 := by
  rw [a_mkW, if_neg (by omega), a_mkR, if_neg (by omega), a_mkS, if_neg (by omega)]
theorem mkW_eq {σ : aS} {node r : Nat} (hg : a_gi σ node) (hr : 2 ≤ r) (hr2 : r ≤ 12) {paths : Nat → Int64} (hp : ∀ q, q < 48 → paths q = a_row σ node false q) : (gr_wk paths (a_setF σ 9 node 48) (r - 2) (0, gr_follow paths (lN (four (a_setF σ 9 node 48) (4 * (r - 2)) * 2 ^ (4 * (r - 2)))) 48)).1 = a_mkW σ node r := by
  have e : four (a_setF σ 9 node 48) (4 * (r - 1 - 1)) = a_inR σ node (r - 1) 4 := inR_four σ node (r := r - 1) (by omega) (by omega)
  have e2 : r - 1 - 1 = r - 2 := by omega
  rw [e2] at e
  have hin := in_str σ node hr hr2
  rw [a_mkW_2 σ node hr, e]
  exact congrArg Prod.fst (mkW_of hg (by omega) hp hin)
theorem a_shQ_19 (node : Nat) (σ : aS) : ∀ n i, (a_shQ node n σ).1 19 i = if 12 * node ≤ i ∧ i < 12 * node + n then σ.1 19 (i + 1) else σ.1 19 i
  | 0, i => by rw [if_neg (by omega)]; rfl
  | n + 1, i => by
    rw [a_shQ, a_up_at, a_shQ_19 node σ n i, a_shQ_19 node σ n (12 * node + n + 1)]
    by_cases e : i = 12 * node + n
    · subst e
      rw [if_pos ⟨rfl, rfl⟩, if_neg (by omega), if_pos (by omega)]
    · rw [if_neg (fun h => e h.2)]
      by_cases h : 12 * node ≤ i ∧ i < 12 * node + n
      · rw [if_pos h, if_pos (by omega)]
      · rw [if_neg h, if_neg (by omega)]
theorem nR_q {cn : Int32} {fy node : Nat} {σ τ : aS} {S S1 : mw_S} (h : nR cn fy node σ S) (hk : a_kp (fun f => f = 19 ∨ f = 20) σ τ) (hc : S1.1 0 1 = nI (τ.1 20 node)) (hq : ∀ k, k < τ.1 20 node → S1.1 1 k = nI (τ.1 19 (12 * node + k))) : nR cn fy node τ (mw_mg S [8, 9] S1) := by
  have k : ∀ f j, f ≠ 19 → f ≠ 20 → τ.1 f j = σ.1 f j := fun f j a b => hk.1 f j (by omega)
  have k0 := fun j => k 0 j (by decide) (by decide)
  have kr : ∀ so i, a_row τ node so i = a_row σ node so i := fun so i => a_row_eq node so i (fun j => k 1 j (by decide) (by decide)) (fun j => k 2 j (by decide) (by decide)) (fun j => k 8 j (by decide) (by decide)) (fun j => k 9 j (by decide) (by decide)) (by rw [hk.2])
  have ks : ∀ f, f ≠ 19 → f ≠ 20 → a_setF τ f node 48 = a_setF σ f node 48 := fun f a b => a_setF_eq (fun i _ => k f _ a b)
  exact (nR_mk (h.se) (h.co) (by rw [ks 6 (by decide) (by decide)]; exact h.ec) (by rw [ks 7 (by decide) (by decide)]; exact h.rd) (by rw [k 14 _ (by decide) (by decide)]; exact h.ow) (by rw [k 16 _ (by decide) (by decide)]; exact h.cm) (by rw [k 15 _ (by decide) (by decide)]; exact h.lw) (by rw [ks 9 (by decide) (by decide)]; exact h.ad) (fun i hi => by rw [k 8 _ (by decide) (by decide)]; exact h.ac i hi) (fun i hi => by rw [kr]; exact h.pa i hi) (fun i hi => by rw [kr]; exact h.sp i hi) (by rw [ks 10 (by decide) (by decide)]; exact h.en) (by rw [k 17 _ (by decide) (by decide)]; exact h.oc) (fun i hi => by rw [k 17 _ (by decide) (by decide)] at hi; rw [k 11 _ (by decide) (by decide)]; exact h.od i hi) (fun j hj => by rw [k 18 _ (by decide) (by decide)]; exact h.ba j hj) hc hq (fun j hj => by rw [k 12 _ (by decide) (by decide)]; exact h.ev j hj) (fun j hj => by rw [k 13 _ (by decide) (by decide)]; exact h.rv j hj) (by rw [k0]; exact h.vn) (fun v hv => by rw [k 1 _ (by decide) (by decide)]; exact h.vp v hv) (fun v hv => by rw [k 2 _ (by decide) (by decide)]; exact h.vs v hv) (fun v hv => by rw [show τ.2.1 = σ.2.1 from by rw [hk.2]]; exact h.vw v hv) (fun v hv => by rw [k 4 _ (by decide) (by decide)]; exact h.vt v hv) (h.si) (by rw [k0]; exact h.mc) (fun i hi => by rw [k0] at hi; rw [k 5 _ (by decide) (by decide)]; exact h.mw i hi))
theorem nR_first {cn : Int32} {fy node : Nat} {σ : aS} {S S1 : mw_S} {x : Int32} (h : nR cn fy node σ S) (hx : (σ.1 20 node = 0 ∧ x = nI 0 ∧ S1 = mw_rs S [8, 9]) ∨ (0 < σ.1 20 node ∧ x = (mw_rs S [8, 9]).1 1 0 ∧ S1 = mw_rI (mw_uI (mw_rs S [8, 9]) 0 1 (nI (σ.1 20 node - 1))) 1 (va_cpy ((mw_rs S [8, 9]).1 1) ((mw_rs S [8, 9]).1 1) 1 0 (σ.1 20 node - 1)))) : x = nI (a_first σ node).1 ∧ nR cn fy node (a_first σ node).2 (mw_mg S [8, 9] S1) := by
  have hk := a_first_kp σ node
  rcases hx with ⟨h0, rfl, rfl⟩ | ⟨h0, rfl, rfl⟩
  · have e : a_first σ node = (0, σ) := by rw [a_first, if_pos h0]
    rw [e]
    exact ⟨rfl, nR_q h (a_kp_r _ _) h.qc h.qu⟩
  · have e : a_first σ node = (σ.1 19 (12 * node), a_shQ node (σ.1 20 node - 1) (a_up σ 20 node (σ.1 20 node - 1))) := by rw [a_first, if_neg (by omega)]
    rw [e] at hk ⊢
    have e20 : (a_shQ node (σ.1 20 node - 1) (a_up σ 20 node (σ.1 20 node - 1))).1 20 node = σ.1 20 node - 1 := by rw [(a_shQ_kp node _ _).1 20 node (by decide), a_up_s]
    refine ⟨(h.qu 0 h0).trans (by rw [Nat.add_zero]), nR_q h hk (by show _ = nI ((a_shQ node (σ.1 20 node - 1) (a_up σ 20 node (σ.1 20 node - 1))).1 20 node); rw [e20]; rfl) (fun i hi => ?_)⟩
    have hi2 : i < σ.1 20 node - 1 := by
      have hi3 : i < (a_shQ node (σ.1 20 node - 1) (a_up σ 20 node (σ.1 20 node - 1))).1 20 node := hi
      rw [e20] at hi3
      exact hi3
    show va_cpy (S.1 9) (S.1 9) 1 0 (σ.1 20 node - 1) i = nI ((a_shQ node (σ.1 20 node - 1) (a_up σ 20 node (σ.1 20 node - 1))).1 19 (12 * node + i))
    rw [a_shQ_19, if_pos (by omega), a_up_f _ _ _ _ (by decide)]
    unfold va_cpy
    rw [if_pos (by omega), show 1 + (i - 0) = i + 1 from by omega]
    exact h.qu (i + 1) (by omega)
theorem a_newV_st {fy B : Nat} {σ : aS} (hI : aI fy B σ) {node : Nat} (hn : node < 4) (place k t : Nat) (w : Int64) (so : Bool) : ∀ q, q < 48 → ¬ σ.1 9 (48 * node + q) = 0 → (a_newV σ place k w t).1 8 (48 * node + q) = σ.1 8 (48 * node + q) ∧ a_points (a_newV σ place k w t) (σ.1 8 (48 * node + q)) so = a_points σ (σ.1 8 (48 * node + q)) so := by
  intro q hq _
  refine ⟨rfl, ?_⟩
  have hle := (hI.ac node q hn hq).1
  have hne : σ.1 8 (48 * node + q) ≠ σ.1 0 5 + 1 := by omega
  generalize σ.1 8 (48 * node + q) = u at *
  have e1 : (a_newV σ place k w t).1 1 u = σ.1 1 u := by
    show (if 1 = 1 ∧ u = σ.1 0 5 + 1 then place else σ.1 1 u) = _
    rw [if_neg (fun h => hne h.2)]
  have e2 : (a_newV σ place k w t).1 2 u = σ.1 2 u := by
    show (if 2 = 2 ∧ u = σ.1 0 5 + 1 then k else σ.1 2 u) = _
    rw [if_neg (fun h => hne h.2)]
  have e3 : (a_newV σ place k w t).2.1 u = σ.2.1 u := by
    show (if u = σ.1 0 5 + 1 then w else σ.2.1 u) = _
    rw [if_neg hne]
  unfold a_points
  rw [e1, e2, e3]
theorem a_gi_newV {fy B : Nat} {σ : aS} (hI : aI fy B σ) {node : Nat} (hn : node < 4) (hg : a_gi σ node) (place k t : Nat) (w : Int64) : a_gi (a_newV σ place k w t) node := by
  intro q hq h9
  have h9' : ¬ σ.1 9 (48 * node + q) = 0 := h9
  obtain ⟨g1, g2, g3⟩ := hg q hq h9'
  have hs := (a_newV_st hI hn place k t w false q hq h9').2
  have e8 : (a_newV σ place k w t).1 8 (48 * node + q) = σ.1 8 (48 * node + q) := rfl
  rw [e8, hs]
  refine ⟨g1, ?_, g3⟩
  have hle := (hI.ac node q hn hq).1
  have hne : σ.1 8 (48 * node + q) ≠ σ.1 0 5 + 1 := by omega
  generalize σ.1 8 (48 * node + q) = u at *
  have e1 : (a_newV σ place k w t).1 1 u = σ.1 1 u := by
    show (if 1 = 1 ∧ u = σ.1 0 5 + 1 then place else σ.1 1 u) = _
    rw [if_neg (fun h => hne h.2)]
  have e2 : (a_newV σ place k w t).1 2 u = σ.1 2 u := by
    show (if 2 = 2 ∧ u = σ.1 0 5 + 1 then k else σ.1 2 u) = _
    rw [if_neg (fun h => hne h.2)]
  have e3 : (a_newV σ place k w t).2.1 u = σ.2.1 u := by
    show (if u = σ.1 0 5 + 1 then w else σ.2.1 u) = _
    rw [if_neg hne]
  unfold a_right
  rw [e1, e2, e3]
  exact g2
theorem nR_newV {cn : Int32} {fy B node : Nat} {σ : aS} {S S1 : mw_S} {place k t : Nat} {w : Int64} (h : nR cn fy node σ S) (hI : aI fy B σ) (hg : a_gi σ node) (hn : node < 4) (e : S1 = mw_uI (mw_uL (mw_uI (mw_uI (mw_uI (mw_rs S [15, 16, 17, 18, 19]) 0 4 (nI (σ.1 0 5 + 1))) 1 (σ.1 0 5 + 1) (nI place)) 2 (σ.1 0 5 + 1) (nI k)) 3 (σ.1 0 5 + 1) w) 4 (σ.1 0 5 + 1) (nI t)) : nR cn fy node (a_newV σ place k w t) (mw_mg S [15, 16, 17, 18, 19] S1) := by
  subst e
  have U : ∀ (f : Nat → Int32) (g : Nat → Nat) (x u : Nat), f u = nI (g u) → upd f (σ.1 0 5 + 1) (nI x) u = nI (if u = σ.1 0 5 + 1 then x else g u) := fun f g x u hfu => by
    unfold upd
    by_cases e : u = σ.1 0 5 + 1
    · rw [if_pos e, if_pos e]
    · rw [if_neg e, if_neg e]
      exact hfu
  have A : ∀ (f u x : Nat), (if f = f ∧ u = σ.1 0 5 + 1 then x else σ.1 f u) = if u = σ.1 0 5 + 1 then x else σ.1 f u := fun f u x => by simp
  exact (nR_mk (h.se) (h.co) (h.ec.trans (a_setF_eq (fun _ _ => rfl)).symm) (h.rd.trans (a_setF_eq (fun _ _ => rfl)).symm) (h.ow) (h.cm) (h.lw) (h.ad.trans (a_setF_eq (fun _ _ => rfl)).symm) (h.ac) (fun q hq => (h.pa q hq).trans (a_row_st hg false (a_newV_st hI hn place k t w false) hq rfl).symm) (fun q hq => (h.sp q hq).trans (a_row_st hg true (a_newV_st hI hn place k t w true) hq rfl).symm) (h.en.trans (a_setF_eq (fun _ _ => rfl)).symm) (h.oc) (h.od) (h.ba) (h.qc) (h.qu) (h.ev) (h.rv) rfl (fun u hu => by
      show upd (S.1 16) (σ.1 0 5 + 1) (nI place) u = nI (if 1 = 1 ∧ u = σ.1 0 5 + 1 then place else σ.1 1 u)
      rw [A, U _ (σ.1 1) _ _ (h.vp u hu)]) (fun u hu => by
      show upd (S.1 17) (σ.1 0 5 + 1) (nI k) u = nI (if 2 = 2 ∧ u = σ.1 0 5 + 1 then k else σ.1 2 u)
      rw [A, U _ (σ.1 2) _ _ (h.vs u hu)]) (fun u hu => by
      show vp_updL (S.2 18) (σ.1 0 5 + 1) w u = if u = σ.1 0 5 + 1 then w else σ.2.1 u
      unfold vp_updL
      by_cases e : u = σ.1 0 5 + 1
      · rw [if_pos e, if_pos e]
      · rw [if_neg e, if_neg e]
        exact h.vw u hu) (fun u hu => by
      show upd (S.1 19) (σ.1 0 5 + 1) (nI t) u = nI (if 4 = 4 ∧ u = σ.1 0 5 + 1 then t else σ.1 4 u)
      rw [A, U _ (σ.1 4) _ _ (h.vt u hu)]) (h.si) (h.mc) (h.mw))
set_option maxHeartbeats 4000000 in
set_option maxRecDepth 100000 in
theorem m_No_broadcastOwnVertex (l : Launch) (D : va_G) (cA : Nat → ClassId) (cn : Int32) (σ : aS) (fy B node r : Nat) (S : mw_S) (h : nR cn fy node σ S) (hI : aI fy B σ) (hg : a_gi σ node) (hn : node < 4) (hr : σ.1 14 node = r) (hr1 : 1 ≤ r) (hr2 : r ≤ 12) (hv : σ.1 0 5 + 1 ≤ a_own σ + σ.1 0 10) (hB : B + 4 ≤ 2240) : mw_M true l lw_tbl y_No_broadcastOwnVertex b_No_broadcastOwnVertex 6 none { frames := 3, cells := 0, slots := 0, locals := 77 } D vCl cA sh_No 22 [.inr (.inr 0)] (S) (mw_Pv (fun S' => nR cn fy node (a_mkV fy σ node r) S')) := by
  refine mw_M_of (by decide) (Nat.le_of_ble_eq_true rfl) ?_
  intro p e s m args below meth c A ad C hR
  have how : S.1 0 12 = nI r := by rw [← hr]; exact h.ow
  have hsl := a_mkS_lt σ node r
  have hkp := a_first_kp σ node
  have h5 : (a_first σ node).2.1 0 5 = σ.1 0 5 := hkp.1 0 5 (by decide)
  have hm : (a_first σ node).2.1 0 12 = σ.1 0 12 := hkp.1 0 12 (by decide)
  have hIm := hI.m
  have hfo := hI.fo
  have hoo : a_own σ ≤ 48 := by
    have a0 := hI.ow 0
    have a1 := hI.ow 1
    have a2 := hI.ow 2
    have a3 := hI.ow 3
    unfold a_own
    omega
  have K : mw p l e { frames := 3, cells := 0, slots := 0, locals := 77 } s m args below meth c (MQ below (mw_Qc true D vCl cA ad sh_No 22 s.heap.size (S) (mw_Pv (fun S' => nR cn fy node (a_mkV fy σ node r) S'))) args s 0 0 A) 0 0 D vCl cA A ad sh_No 22 6 (50) ([(2, .inr (.inl (a_mkW σ node r))), (1, .inl (nI (a_mkS σ node r))), (0, .inr (.inr 0))]) ([]) (S) := by
    refine mw_aload_n C 0 d_No_broadcastOwnVertex_50 rfl rfl ?_
    refine mw_geti C f_No_108 d_No_broadcastOwnVertex_51 (by decide) rfl rfl ?_
    refine mw_eqi how ?_
    refine mw_aload_n C 0 d_No_broadcastOwnVertex_54 rfl rfl ?_
    refine mw_geti C f_No_39 d_No_broadcastOwnVertex_55 (by decide) rfl rfl ?_
    refine mw_eqi h.se ?_
    refine mw_run0i C (ix0 _ _) (mw_invS C (m_Wl_numberOf l D cA r node hr1 _) (ix0 _ _) kb_No_134 ws_Wl_numberOf d_No_broadcastOwnVertex_58 rfl rfl (Nat.le_of_ble_eq_true rfl) rfl rfl ⟨by decide, by decide⟩ ⟨Nat.zero_le _, Nat.zero_le _⟩) (fun x58 e58 => ?_)
    subst e58
    refine mw_istore C d_No_broadcastOwnVertex_61 (by decide) ?_
    refine mw_aload_n C 0 d_No_broadcastOwnVertex_63 rfl rfl ?_
    refine mw_getr C f_No_46 d_No_broadcastOwnVertex_64 (by decide) rfl rfl ?_
    refine mw_iload C d_No_broadcastOwnVertex_67 rfl ?_
    refine mw_iload_n C 1 d_No_broadcastOwnVertex_69 rfl rfl ?_
    refine mw_lload_n C 2 d_No_broadcastOwnVertex_70 rfl rfl ?_
    refine mw_aload_n C 0 d_No_broadcastOwnVertex_71 rfl rfl ?_
    refine mw_getr C f_No_21 d_No_broadcastOwnVertex_72 (by decide) rfl rfl ?_
    refine mw_runi C ix_Tq_No rfl (mw_invV C (kk := 0) (m_Tq_takeFirstOrNone l D cA _ (σ.1 20 node) (hI.qd node) h.qc) ix_Tq_No kb_No_138 wm_Tq_takeFirstOrNone wv_Tq_takeFirstOrNone (by decide) rfl rfl d_No_broadcastOwnVertex_75 rfl rfl (Nat.le_of_ble_eq_true rfl) rfl rfl ⟨by decide, by decide⟩ ⟨Nat.zero_le _, Nat.zero_le _⟩) (fun x75 S75 e75 => ?_)
    obtain ⟨q1, q2⟩ := nR_first h e75
    subst q1
    have hI1 := aI_first hI node
    have hg1 : a_gi (a_first σ node).2 node := a_gi_kp hg hkp (by decide)
    refine mw_runi C ix_Ve_No rfl (mw_invV C (kk := 0) (m_Ve_make l D cA (nI (4 * (r - 1) + node)) (nI (a_mkS σ node r)) (nI (a_first σ node).1) (a_mkW σ node r) _ ((a_first σ node).2.1 0 5) (by rw [h5]; omega) q2.vn) ix_Ve_No kb_No_142 wm_Ve_make wv_Ve_make (by decide) rfl rfl d_No_broadcastOwnVertex_78 rfl rfl (Nat.le_of_ble_eq_true rfl) rfl rfl ⟨by decide, by decide⟩ ⟨Nat.zero_le _, Nat.zero_le _⟩) (fun x78 S78 e78 => ?_)
    obtain ⟨rfl, e78⟩ := e78
    have hN2 := nR_newV q2 hI1 hg1 hn e78
    refine mw_istore C d_No_broadcastOwnVertex_81 (by decide) ?_
    refine mw_aload_n C 0 d_No_broadcastOwnVertex_83 rfl rfl ?_
    refine mw_getr C f_No_50 d_No_broadcastOwnVertex_84 (by decide) rfl rfl ?_
    refine mw_iconst C (v := nI 0) d_No_broadcastOwnVertex_87 (by decide) ?_
    refine mw_aload_n C 0 d_No_broadcastOwnVertex_88 rfl rfl ?_
    refine mw_geti C f_No_39 d_No_broadcastOwnVertex_89 (by decide) rfl rfl ?_
    refine mw_eqi (show _ = nI node from hN2.se) ?_
    refine mw_iload C d_No_broadcastOwnVertex_92 rfl ?_
    have hm2 : (a_newV (a_first σ node).2 (4 * (r - 1) + node) (a_mkS σ node r) (a_mkW σ node r) (a_first σ node).1).1 0 12 = σ.1 0 12 := hm
    refine mw_runv C ix_Ma_No rfl (mw_invV C (kk := 0) (m_Ma_broadcast l D cA 0 node ((a_first σ node).2.1 0 5 + 1) (slv fy) _ (σ.1 0 12) (by decide) hn (by rw [h5]; omega) (by omega) (by rw [← hm2]; exact hN2.mc) hN2.si) ix_Ma_No kb_No_84 wm_Ma_broadcast wv_Ma_broadcast (by decide) rfl rfl d_No_broadcastOwnVertex_94 rfl rfl (Nat.le_of_ble_eq_true rfl) rfl rfl ⟨by decide, by decide⟩ ⟨Nat.zero_le _, Nat.zero_le _⟩) (fun S94 e94 => ?_)
    refine mw_vret C hR d_No_broadcastOwnVertex_97 ?_
    rw [← hm2] at e94
    exact nR_cast2 hN2 (by decide) hn (by rw [h5]; omega) e94
  by_cases hr0 : r = 1
  ·
    refine mw_aload_n C 0 d_No_broadcastOwnVertex_0 rfl rfl ?_
    refine mw_geti C f_No_108 d_No_broadcastOwnVertex_1 (by decide) rfl rfl ?_
    refine mw_eqi how ?_
    refine mw_iconst C (v := nI 1) d_No_broadcastOwnVertex_4 (by decide) ?_
    refine mw_icmp_neN C 12 d_No_broadcastOwnVertex_5 (by decide) (by omega) (by omega) (fun h5 => ?_) (fun h5 => ?_)
    · exact absurd hr0 h5
    ·
      refine mw_iconst C (v := nI 0) d_No_broadcastOwnVertex_8 (by decide) ?_
      refine mw_goto C 25 d_No_broadcastOwnVertex_9 (by decide) ?_
      refine mw_istore_n C 1 d_No_broadcastOwnVertex_25 rfl (by decide) ?_
      refine mw_aload_n C 0 d_No_broadcastOwnVertex_26 rfl rfl ?_
      refine mw_geti C f_No_108 d_No_broadcastOwnVertex_27 (by decide) rfl rfl ?_
      refine mw_eqi how ?_
      refine mw_iconst C (v := nI 1) d_No_broadcastOwnVertex_30 (by decide) ?_
      refine mw_icmp_neN C 38 d_No_broadcastOwnVertex_31 (by decide) (by omega) (by omega) (fun h31 => ?_) (fun h31 => ?_)
      · exact absurd hr0 h31
      ·
        refine mw_lconst C (v := 0) d_No_broadcastOwnVertex_34 (by decide) ?_
        refine mw_goto C 49 d_No_broadcastOwnVertex_35 (by decide) ?_
        refine mw_lstore_n C 2 d_No_broadcastOwnVertex_49 rfl (by decide) ?_
        refine mw_eq _ _ _ (by exact And.intro (by show some (Sum.inr (Sum.inl _)) = _; rw [a_mkW, if_pos hr0]) (And.intro (by show some (Sum.inl _) = _; rw [a_mkS, if_pos hr0]) (And.intro rfl trivial))) rfl rfl K
  ·
    refine mw_aload_n C 0 d_No_broadcastOwnVertex_0 rfl rfl ?_
    refine mw_geti C f_No_108 d_No_broadcastOwnVertex_1 (by decide) rfl rfl ?_
    refine mw_eqi how ?_
    refine mw_iconst C (v := nI 1) d_No_broadcastOwnVertex_4 (by decide) ?_
    refine mw_icmp_neN C 12 d_No_broadcastOwnVertex_5 (by decide) (by omega) (by omega) (fun h5 => ?_) (fun h5 => ?_)
    ·
      refine mw_aload_n C 0 d_No_broadcastOwnVertex_12 rfl rfl ?_
      refine mw_getr C f_No_59 d_No_broadcastOwnVertex_13 (by decide) rfl rfl ?_
      refine mw_aload_n C 0 d_No_broadcastOwnVertex_16 rfl rfl ?_
      refine mw_geti C f_No_108 d_No_broadcastOwnVertex_17 (by decide) rfl rfl ?_
      refine mw_eqi how ?_
      refine mw_iconst C (v := nI 1) d_No_broadcastOwnVertex_20 (by decide) ?_
      refine mw_isubN C d_No_broadcastOwnVertex_21 (by omega) ?_
      refine mw_run0i C ix_Gr_No (mw_invV C (kk := 0) (m_Gr_nodesIn l D cA (r - 1) (by omega) (by omega) _) ix_Gr_No kb_No_128 wm_Gr_nodesIn wv_Gr_nodesIn (by decide) rfl rfl d_No_broadcastOwnVertex_22 rfl rfl (Nat.le_of_ble_eq_true rfl) rfl rfl ⟨by decide, by decide⟩ ⟨Nat.zero_le _, Nat.zero_le _⟩) (fun x22 e22 => ?_)
      subst e22
      refine mw_eqi (show _ = nI (a_mkS σ node r) from by
        show nI (four (S.2 1 4) (4 * (r - 1 - 1))) = _
        rw [h.ad, inR_four σ node (r := r - 1) (by omega) (by omega), a_mkS, if_neg hr0]) ?_
      refine mw_istore_n C 1 d_No_broadcastOwnVertex_25 rfl (by decide) ?_
      refine mw_aload_n C 0 d_No_broadcastOwnVertex_26 rfl rfl ?_
      refine mw_geti C f_No_108 d_No_broadcastOwnVertex_27 (by decide) rfl rfl ?_
      refine mw_eqi how ?_
      refine mw_iconst C (v := nI 1) d_No_broadcastOwnVertex_30 (by decide) ?_
      refine mw_icmp_neN C 38 d_No_broadcastOwnVertex_31 (by decide) (by omega) (by omega) (fun h31 => ?_) (fun h31 => ?_)
      ·
        refine mw_aload_n C 0 d_No_broadcastOwnVertex_38 rfl rfl ?_
        refine mw_getr C f_No_59 d_No_broadcastOwnVertex_39 (by decide) rfl rfl ?_
        refine mw_aload_n C 0 d_No_broadcastOwnVertex_42 rfl rfl ?_
        refine mw_geti C f_No_108 d_No_broadcastOwnVertex_43 (by decide) rfl rfl ?_
        refine mw_eqi how ?_
        refine mw_run0l C ix_Gr_No (mw_invV C (kk := 0) (m_Gr_weakPlacesFor l D cA r (by omega) hr2 _) ix_Gr_No kb_No_131 wm_Gr_weakPlacesFor wv_Gr_weakPlacesFor (by decide) rfl rfl d_No_broadcastOwnVertex_46 rfl rfl (Nat.le_of_ble_eq_true rfl) rfl rfl ⟨by decide, by decide⟩ ⟨Nat.zero_le _, Nat.zero_le _⟩) (fun x46 e46 => ?_)
        subst e46
        refine mw_eql (show _ = a_mkW σ node r from by
          show (gr_wk (S.2 3) (S.2 1 4) (r - 2) (0, gr_follow (S.2 3) (lN (four (S.2 1 4) (4 * (r - 2)) * 2 ^ (4 * (r - 2)))) 48)).1 = _
          rw [h.ad]
          exact mkW_eq hg (by omega) hr2 h.pa) ?_
        refine mw_lstore_n C 2 d_No_broadcastOwnVertex_49 rfl (by decide) ?_
        exact mw_to _ (by exact And.intro rfl (And.intro rfl (And.intro rfl (trivial)))) K
      · exact absurd h31 hr0
    · exact absurd h5 hr0
