/-! the reference's own vertices, and how a node goes on -/
theorem a_inR_lt (σ : aS) (node r : Nat) : ∀ k, a_inR σ node r k < 2 ^ k
  | 0 => by unfold a_inR; decide
  | k + 1 => by
    have := a_inR_lt σ node r k
    unfold a_inR
    rw [Nat.pow_succ]
    split <;> omega
def a_mkS (σ : aS) (node r : Nat) : Nat := if r = 1 then 0 else a_inR σ node (r - 1) 4
def a_mkR (σ : aS) (node r : Nat) : Int64 := if r = 1 then 0 else a_below σ node false 48 (lN (a_mkS σ node r * 2 ^ (4 * (r - 2))))
def a_wkS (σ : aS) (node q : Nat) (x : Int64 × Int64) : Int64 × Int64 := if 0 < σ.1 9 (48 * node + q) ∧ lb x.2 q = false then (x.1 ||| lN (2 ^ q), a_below σ node false 48 (x.2 ||| lN (2 ^ q))) else x
def a_wk4 (σ : aS) (node r : Nat) : Nat → Int64 × Int64 → Int64 × Int64
  | 0, x => x
  | s + 1, x => a_wkS σ node (4 * r + s) (a_wk4 σ node r s x)
def a_wkL (σ : aS) (node : Nat) : Nat → Int64 × Int64 → Int64 × Int64
  | 0, x => x
  | r + 1, x => a_wkL σ node r (a_wk4 σ node r 4 x)
def a_mkW (σ : aS) (node r : Nat) : Int64 := if r = 1 then 0 else (a_wkL σ node (r - 2) (0, a_mkR σ node r)).1
def a_mkV (fy : Nat) (σ : aS) (node r : Nat) : aS := a_cast fy 0 node ((a_first σ node).2.1 0 5 + 1) 4 (a_newV (a_first σ node).2 (4 * (r - 1) + node) (a_mkS σ node r) (a_mkW σ node r) (a_first σ node).1)
theorem a_mkS_lt (σ : aS) (node r : Nat) : a_mkS σ node r < 16 := by
  unfold a_mkS
  split
  · decide
  · exact a_inR_lt σ node (r - 1) 4
theorem aI.le {fy B B' : Nat} {σ : aS} (h : aI fy B σ) (hb : B ≤ B') : aI fy B' σ := (aI_mk (h.pl) (h.st) (h.tr) (h.qu) (h.f6) (h.f7) (h.f9) (h.f10) (h.f15) (h.ac) (h.vo) (h.bl) (h.ow) (h.cm) (h.oc) (h.qd) (h.be) (h.fo) (h.vs) (Nat.le_trans h.mm hb) (h.wt))
theorem aI.m {fy B : Nat} {σ : aS} (h : aI fy B σ) : σ.1 0 12 ≤ B := by
  have := h.mm
  omega
theorem a_shQ_tok (node : Nat) (σ : aS) (h : ∀ j, a_tok (σ.1 19 j)) : ∀ k j, a_tok ((a_shQ node k σ).1 19 j)
  | 0, j => h j
  | k + 1, j => by
    unfold a_shQ
    rw [a_up_at]
    split
    · exact a_shQ_tok node σ h k _
    · exact a_shQ_tok node σ h k _
theorem a_first_kp (σ : aS) (node : Nat) : a_kp (fun f => f = 19 ∨ f = 20) σ (a_first σ node).2 := by
  unfold a_first
  split
  · exact a_kp_r _ _
  · exact a_kp_t (a_kp_u (fs := fun f => f = 19 ∨ f = 20) (f := 20) (by decide) _ _ _) (a_kp_w (a_shQ_kp node _ _) (fun f hf => Or.inl hf))
theorem a_first_tok {fy B : Nat} {σ : aS} (hI : aI fy B σ) (node : Nat) : a_tok (a_first σ node).1 := by
  unfold a_first
  split
  · show a_tok 0
    exact ⟨by decide, by decide, by decide⟩
  · exact hI.qu _
theorem aI_first {fy B : Nat} {σ : aS} (hI : aI fy B σ) (node : Nat) : aI fy B (a_first σ node).2 := by
  have hk := a_first_kp σ node
  have k : ∀ f j, ¬ (f = 19 ∨ f = 20) → (a_first σ node).2.1 f j = σ.1 f j := hk.1
  have hq : ∀ j, a_tok ((a_first σ node).2.1 19 j) := by
    intro j
    unfold a_first
    split
    · exact hI.qu j
    · exact a_shQ_tok node (a_up σ 20 node (σ.1 20 node - 1)) (fun i => hI.qu i) _ j
  have hd : ∀ n, (a_first σ node).2.1 20 n ≤ 12 := by
    intro n
    unfold a_first
    split
    · exact hI.qd n
    · show (a_shQ node (σ.1 20 node - 1) (a_up σ 20 node (σ.1 20 node - 1))).1 20 n ≤ 12
      rw [(a_shQ_kp node _ _).1 20 n (by decide), a_up_at]
      have := hI.qd node
      split
      · omega
      · exact hI.qd n
  generalize (a_first σ node).2 = τ at *
  have k0 := fun j => k 0 j (by decide)
  have k14 := fun j => k 14 j (by decide)
  have e6 : τ.1 6 = σ.1 6 := funext (fun j => k 6 j (by decide))
  have e7 : τ.1 7 = σ.1 7 := funext (fun j => k 7 j (by decide))
  have e10 : τ.1 10 = σ.1 10 := funext (fun j => k 10 j (by decide))
  have eo : a_own τ = a_own σ := by unfold a_own; rw [k14, k14, k14, k14]
  exact (aI_mk (fun v => by rw [k 1 v (by decide)]; exact hI.pl v) (fun v => by rw [k 2 v (by decide)]; exact hI.st v) (fun v => by rw [k 4 v (by decide)]; exact hI.tr v) hq (fun v => by rw [k 6 v (by decide)]; exact hI.f6 v) (fun v => by rw [k 7 v (by decide)]; exact hI.f7 v) (fun v => by rw [k 9 v (by decide)]; exact hI.f9 v) (fun v => by rw [k 10 v (by decide)]; exact hI.f10 v) (fun v => by rw [k 15 v (by decide)]; exact hI.f15 v) (fun n q hn hq => by rw [k 8 _ (by decide), k0, k 1 _ (by decide)]; exact hI.ac n q hn hq) (fun v => by rw [k 12 v (by decide), k 13 v (by decide)]; exact hI.vo v) (fun n hn => by rw [k 18 _ (by decide), k 18 _ (by decide), k 18 _ (by decide), k 18 _ (by decide)]; exact hI.bl n hn) (fun v => by rw [k14]; exact hI.ow v) (fun v => by rw [k 16 v (by decide)]; exact hI.cm v) (fun n hn => by rw [e10, k 17 n (by decide)]; exact hI.oc n hn) hd (by rw [k0]; exact hI.be) (by rw [k0]; exact hI.fo) (by rw [k0, k0, eo]; exact hI.vs) (by rw [k0, e6, e7, eo]; exact hI.mm) (fun i hi => by rw [k0] at hi; rw [k 5 i (by decide), k0]; exact hI.wt i hi))
theorem aI_newV {fy B : Nat} {σ : aS} (hI : aI fy B σ) {place k t : Nat} (w : Int64) (hp : place < 48) (hk : k < 16) (ht : a_tok t) (hv : σ.1 0 5 + 1 ≤ a_own σ + σ.1 0 10) : aI fy B (a_newV σ place k w t) := by
  have e5 : (a_newV σ place k w t).1 0 5 = σ.1 0 5 + 1 := rfl
  exact (aI_mk (fun v => by
      show (if 1 = 1 ∧ v = σ.1 0 5 + 1 then place else σ.1 1 v) < 48
      split
      · exact hp
      · exact hI.pl v) (fun v => by
      show (if 2 = 2 ∧ v = σ.1 0 5 + 1 then k else σ.1 2 v) < 16
      split
      · exact hk
      · exact hI.st v) (fun v => by
      show a_tok (if 4 = 4 ∧ v = σ.1 0 5 + 1 then t else σ.1 4 v)
      split
      · exact ht
      · exact hI.tr v) (hI.qu) (hI.f6) (hI.f7) (hI.f9) (hI.f10) (hI.f15) (fun n q hn hq => by
      have h1 := hI.ac n q hn hq
      refine ⟨Nat.le_trans h1.1 (by rw [e5]; omega), fun h0 => ?_⟩
      have e8 : (a_newV σ place k w t).1 8 (48 * n + q) = σ.1 8 (48 * n + q) := rfl
      have e1 : ∀ u, u ≠ σ.1 0 5 + 1 → (a_newV σ place k w t).1 1 u = σ.1 1 u := fun u hu => by
        show (if 1 = 1 ∧ u = σ.1 0 5 + 1 then place else σ.1 1 u) = _
        rw [if_neg (fun h => hu h.2)]
      rw [e8] at h0 ⊢
      rw [e1 _ (by omega)]
      exact h1.2 h0) (hI.vo) (hI.bl) (hI.ow) (hI.cm) (hI.oc) (hI.qd) (hI.be) (hI.fo) (by rw [e5]; exact hv) (hI.mm) (fun i hi => by
      have h1 := hI.wt i hi
      exact ⟨h1.1, h1.2.1, by rw [e5]; exact Nat.le_succ_of_le h1.2.2.1, h1.2.2.2⟩))
theorem aI_send {fy B : Nat} {σ : aS} (hI : aI fy B σ) {kind fr to v : Nat} (hk : kind ≤ 2) (hf : fr < 4) (ht : to < 4) (hv : 1 ≤ v) (hv2 : v ≤ σ.1 0 5) : aI fy (B + 1) (a_send fy σ kind fr to v) := by
  unfold a_send
  split
  · exact hI.le (by omega)
  · rename_i hne
    have h72 := hI.v72
    exact (aI_mk (hI.pl) (hI.st) (hI.tr) (hI.qu) (hI.f6) (hI.f7) (hI.f9) (hI.f10) (hI.f15) (hI.ac) (hI.vo) (hI.bl) (hI.ow) (hI.cm) (hI.oc) (hI.qd) (hI.be) (hI.fo) (hI.vs) (by
      show σ.1 0 12 + 1 + 4 * (48 - a_own σ) + 4 * a_c0 (σ.1 6) 192 + 4 * a_c0 (σ.1 7) 192 ≤ B + 1
      have := hI.mm
      omega) (fun i hi => by
      have hi2 : i < σ.1 0 12 + 1 := hi
      show (if 5 = 5 ∧ i = σ.1 0 12 then a_msg kind fr to v else σ.1 5 i) < 3840 ∧ 1 ≤ (if 5 = 5 ∧ i = σ.1 0 12 then a_msg kind fr to v else σ.1 5 i) % 80 ∧ (if 5 = 5 ∧ i = σ.1 0 12 then a_msg kind fr to v else σ.1 5 i) % 80 ≤ σ.1 0 5 ∧ (if 5 = 5 ∧ i = σ.1 0 12 then a_msg kind fr to v else σ.1 5 i) / 80 % 4 ≠ fy
      by_cases e : i = σ.1 0 12
      · rw [if_pos ⟨rfl, e⟩]
        unfold a_msg
        refine ⟨by omega, by omega, by omega, ?_⟩
        rw [show (((kind * 4 + fr) * 4 + to) * 80 + v) / 80 % 4 = to from by omega]
        exact hne
      · rw [if_neg (fun h => e h.2)]
        exact hI.wt i (by omega)))
def a_S (f : Nat) : Prop := f = 0 ∨ f = 5
theorem a_send_kp (fy : Nat) (σ : aS) (kind fr to v : Nat) : a_kp a_S σ (a_send fy σ kind fr to v) ∧ ∀ j, j ≠ 12 → (a_send fy σ kind fr to v).1 0 j = σ.1 0 j := by
  unfold a_send
  split
  · exact ⟨a_kp_r _ _, fun _ _ => rfl⟩
  · exact ⟨a_kp_t (a_kp_u (fs := a_S) (f := 5) (by unfold a_S; decide) _ _ _) (a_kp_u (fs := a_S) (f := 0) (by unfold a_S; decide) _ _ _), fun j hj => by rw [a_up_j _ _ _ _ hj, a_up_f _ _ _ _ (by decide)]⟩
theorem a_cast_kp (fy kind fr v : Nat) (σ : aS) : ∀ k, a_kp a_S σ (a_cast fy kind fr v k σ) ∧ ∀ j, j ≠ 12 → (a_cast fy kind fr v k σ).1 0 j = σ.1 0 j
  | 0 => ⟨a_kp_r _ _, fun _ _ => rfl⟩
  | k + 1 => ⟨a_kp_t (a_cast_kp fy kind fr v σ k).1 (a_send_kp fy _ kind fr k v).1, fun j hj => ((a_send_kp fy _ kind fr k v).2 j hj).trans ((a_cast_kp fy kind fr v σ k).2 j hj)⟩
theorem aI_cast {fy B : Nat} {σ : aS} (hI : aI fy B σ) {kind fr v : Nat} (hk : kind ≤ 2) (hf : fr < 4) (hv : 1 ≤ v) (hv2 : v ≤ σ.1 0 5) : ∀ k, k ≤ 4 → aI fy (B + k) (a_cast fy kind fr v k σ)
  | 0, _ => hI
  | k + 1, h => aI_send (aI_cast hI hk hf hv hv2 k (by omega)) hk hf (by omega) hv (by rw [(a_cast_kp fy kind fr v σ k).2 5 (by decide)]; exact hv2)
theorem aI_own {fy B : Nat} {σ : aS} (hI : aI fy B σ) {node : Nat} (hn : node < 4) (ho : σ.1 14 node < 12) : 4 ≤ B ∧ aI fy (B - 4) (a_up σ 14 node (σ.1 14 node + 1)) ∧ (a_up σ 14 node (σ.1 14 node + 1)).1 0 5 + 1 ≤ a_own (a_up σ 14 node (σ.1 14 node + 1)) + (a_up σ 14 node (σ.1 14 node + 1)).1 0 10 := by
  have eo : a_own (a_up σ 14 node (σ.1 14 node + 1)) = a_own σ + 1 := by
    have h4 : node = 0 ∨ node = 1 ∨ node = 2 ∨ node = 3 := by omega
    unfold a_own
    rcases h4 with rfl | rfl | rfl | rfl <;> simp [a_up_at] <;> omega
  have a0 := hI.ow 0
  have a1 := hI.ow 1
  have a2 := hI.ow 2
  have a3 := hI.ow 3
  have hlt : a_own σ < 48 := by
    have h4 : node = 0 ∨ node = 1 ∨ node = 2 ∨ node = 3 := by omega
    unfold a_own
    rcases h4 with rfl | rfl | rfl | rfl <;> omega
  have hm := hI.mm
  have hv := hI.vs
  refine ⟨by omega, ?_, ?_⟩
  · exact (aI_mk (hI.pl) (hI.st) (hI.tr) (hI.qu) (hI.f6) (hI.f7) (hI.f9) (hI.f10) (hI.f15) (hI.ac) (hI.vo) (hI.bl) (fun n => by
      rw [a_up_at]
      split
      · omega
      · exact hI.ow n) (hI.cm) (hI.oc) (hI.qd) (hI.be) (hI.fo) (by rw [eo]; show σ.1 0 5 ≤ a_own σ + 1 + σ.1 0 10; omega) (by
      rw [eo]
      show σ.1 0 12 + 4 * (48 - (a_own σ + 1)) + 4 * a_c0 (σ.1 6) 192 + 4 * a_c0 (σ.1 7) 192 ≤ B - 4
      omega) (hI.wt))
  · rw [eo]
    show σ.1 0 5 + 1 ≤ a_own σ + 1 + σ.1 0 10
    omega
theorem aI_mkV {fy B : Nat} {σ : aS} (hI : aI fy B σ) {node r : Nat} (hn : node < 4) (hr : 1 ≤ r) (hr2 : r ≤ 12) (hv : σ.1 0 5 + 1 ≤ a_own σ + σ.1 0 10) : aI fy (B + 4) (a_mkV fy σ node r) := by
  have k := a_first_kp σ node
  have h5 : (a_first σ node).2.1 0 5 = σ.1 0 5 := k.1 0 5 (by decide)
  have h10 : (a_first σ node).2.1 0 10 = σ.1 0 10 := k.1 0 10 (by decide)
  have eo : a_own (a_first σ node).2 = a_own σ := by unfold a_own; rw [k.1 14 _ (by decide), k.1 14 _ (by decide), k.1 14 _ (by decide), k.1 14 _ (by decide)]
  exact aI_cast (aI_newV (aI_first hI node) _ (by omega) (a_mkS_lt σ node r) (a_first_tok hI node) (by rw [h5, h10, eo]; exact hv)) (by decide) hn (Nat.succ_le_succ (Nat.zero_le _)) (Nat.le_refl _) 4 (Nat.le_refl _)
set_option maxHeartbeats 4000000 in
set_option maxRecDepth 100000 in
theorem m_Mo_makeVertex (l : Launch) (D : va_G) (cA : Nat → ClassId) (cn fv : Int32) (σ : aS) (fy B node r : Nat) (S : mw_S) (h : mR cn fv σ S) (hfy : fyR fv fy) (hI : aI fy B σ) (hn : node < 4) (hr : 1 ≤ r) (hr2 : r ≤ 12) (hv : σ.1 0 5 + 1 ≤ a_own σ + σ.1 0 10) (hB : B + 4 ≤ 2400) : mw_M true l lw_tbl y_Mo_makeVertex b_Mo_makeVertex 11 none { frames := 4, cells := 0, slots := 0, locals := 89 } D vCl cA sh_Mo 22 [.inr (.inr 0), .inl (nI node), .inl (nI r)] (S) (mw_Pv (fun S' => mR cn fv (a_mkV fy σ node r) S')) := by
  refine mw_M_of (by decide) (Nat.le_of_ble_eq_true rfl) ?_
  intro p e s m args below meth c A ad C hR
  have hsl := a_mkS_lt σ node r
  have K : ∀ x : Int64, x = a_mkW σ node r → mw p l e { frames := 4, cells := 0, slots := 0, locals := 89 } s m args below meth c (MQ below (mw_Qc true D vCl cA ad sh_Mo 22 s.heap.size (S) (mw_Pv (fun S' => mR cn fv (a_mkV fy σ node r) S'))) args s 0 0 A) 0 0 D vCl cA A ad sh_Mo 22 11 (140) ([(4, .inr (.inl x)), (3, .inl (nI (a_mkS σ node r))), (0, .inr (.inr 0)), (1, .inl (nI node)), (2, .inl (nI r))]) ([]) (S) := by
    intro x hx
    subst hx
    have k := a_first_kp σ node
    have h72 := hI.v72
    have h5 : (a_first σ node).2.1 0 5 = σ.1 0 5 := k.1 0 5 (by decide)
    have hm : (a_first σ node).2.1 0 12 = σ.1 0 12 := k.1 0 12 (by decide)
    have hIm := hI.m
    have h10 : (a_first σ node).2.1 0 10 = σ.1 0 10 := k.1 0 10 (by decide)
    have hf := hI.fo
    have h79 : σ.1 0 5 < 79 := by omega
    refine mw_aload_n C 0 d_Mo_makeVertex_140 rfl rfl ?_
    refine mw_iload_n C 1 d_Mo_makeVertex_141 rfl rfl ?_
    refine mo_runi C rfl (mw_invV C (kk := 0) (m_Mo_firstTransfer l D cA cn fv σ node _ (mR_rs h) hn (hI.qd node)) ix_Mo kb_Mo_172 wm_Mo_firstTransfer wv_Mo_firstTransfer (by decide) rfl rfl d_Mo_makeVertex_142 rfl rfl (Nat.le_of_ble_eq_true rfl) rfl rfl ⟨by decide, by decide⟩ ⟨Nat.zero_le _, Nat.zero_le _⟩) (fun S h => ?_)
    refine mw_istore C d_Mo_makeVertex_145 (by decide) ?_
    refine mw_aload_n C 0 d_Mo_makeVertex_147 rfl rfl ?_
    refine mw_iconst C (v := nI 4) d_Mo_makeVertex_148 (by decide) ?_
    refine mw_iload_n C 2 d_Mo_makeVertex_149 rfl rfl ?_
    refine mw_iconst C (v := nI 1) d_Mo_makeVertex_150 (by decide) ?_
    refine mw_isubN C d_Mo_makeVertex_151 (by omega) ?_
    refine mw_imulN C d_Mo_makeVertex_152 ?_
    refine mw_iload_n C 1 d_Mo_makeVertex_153 rfl rfl ?_
    refine mw_iaddN C d_Mo_makeVertex_154 ?_
    refine mw_iload_n C 3 d_Mo_makeVertex_155 rfl rfl ?_
    refine mw_lload C d_Mo_makeVertex_156 rfl ?_
    refine mw_iload C d_Mo_makeVertex_158 rfl ?_
    refine mo_runi C rfl (mw_invV C (kk := 0) (m_Mo_newVertex l D cA cn fv _ (4 * (r - 1) + node) (a_mkS σ node r) (a_first σ node).1 (a_mkW σ node r) _ (mR_rs h) (by rw [h5]; exact h79)) ix_Mo kb_Mo_175 wm_Mo_newVertex wv_Mo_newVertex (by decide) rfl rfl d_Mo_makeVertex_160 rfl rfl (Nat.le_of_ble_eq_true rfl) rfl rfl ⟨by decide, by decide⟩ ⟨Nat.zero_le _, Nat.zero_le _⟩) (fun S h => ?_)
    refine mw_istore C d_Mo_makeVertex_163 (by decide) ?_
    refine mw_aload_n C 0 d_Mo_makeVertex_165 rfl rfl ?_
    refine mw_iconst C (v := nI 0) d_Mo_makeVertex_166 (by decide) ?_
    refine mw_iload_n C 1 d_Mo_makeVertex_167 rfl rfl ?_
    refine mw_iload C d_Mo_makeVertex_168 rfl ?_
    refine mo_runv C rfl (mw_invV C (kk := 0) (m_Mo_broadcast l D cA cn fv _ fy 0 node ((a_first σ node).2.1 0 5 + 1) _ (mR_rs h) hfy (by decide) hn (by rw [h5]; omega) (by show (a_first σ node).2.1 0 12 + 4 ≤ 2400; rw [hm]; omega)) ix_Mo kb_Mo_120 wm_Mo_broadcast wv_Mo_broadcast (by decide) rfl rfl d_Mo_makeVertex_170 rfl rfl (Nat.le_of_ble_eq_true rfl) rfl rfl ⟨by decide, by decide⟩ ⟨Nat.zero_le _, Nat.zero_le _⟩) (fun S h => ?_)
    refine mw_vret C hR d_Mo_makeVertex_173 ?_
    exact h
  by_cases hr1 : r = 1
  ·
    subst hr1
    refine mw_iload_n C 2 d_Mo_makeVertex_0 rfl rfl ?_
    refine mw_iconst C (v := nI 1) d_Mo_makeVertex_1 (by decide) ?_
    refine mw_icmp_neN C 9 d_Mo_makeVertex_2 (by decide) (by omega) (by omega) (fun h2 => ?_) (fun h2 => ?_)
    · exact absurd rfl h2
    ·
      refine mw_iconst C (v := nI 0) d_Mo_makeVertex_5 (by decide) ?_
      refine mw_goto C 17 d_Mo_makeVertex_6 (by decide) ?_
      refine mw_istore_n C 3 d_Mo_makeVertex_17 rfl (by decide) ?_
      refine mw_lconst C (v := 0) d_Mo_makeVertex_18 (by decide) ?_
      refine mw_lstore C d_Mo_makeVertex_19 (by decide) ?_
      refine mw_iload_n C 2 d_Mo_makeVertex_21 rfl rfl ?_
      refine mw_iconst C (v := nI 1) d_Mo_makeVertex_22 (by decide) ?_
      refine mw_icmp_neN C 30 d_Mo_makeVertex_23 (by decide) (by omega) (by omega) (fun h23 => ?_) (fun h23 => ?_)
      · exact absurd rfl h23
      ·
        refine mw_lconst C (v := 0) d_Mo_makeVertex_26 (by decide) ?_
        refine mw_goto C 44 d_Mo_makeVertex_27 (by decide) ?_
        refine mw_lstore C d_Mo_makeVertex_44 (by decide) ?_
        refine mw_iload_n C 2 d_Mo_makeVertex_46 rfl rfl ?_
        refine mw_iconst C (v := nI 2) d_Mo_makeVertex_47 (by decide) ?_
        refine mw_isub C d_Mo_makeVertex_48 ?_
        refine mw_istore C d_Mo_makeVertex_49 (by decide) ?_
        refine mw_iload C d_Mo_makeVertex_51 rfl ?_
        refine mw_iconst C (v := nI 1) d_Mo_makeVertex_53 (by decide) ?_
        refine mw_icmp_lt C 140 d_Mo_makeVertex_54 (by decide) (fun h54 => ?_) (fun h54 => ?_)
        ·
          exact mw_to _ (by exact And.intro rfl (And.intro rfl (And.intro rfl (And.intro rfl (And.intro rfl (trivial)))))) (K 0 (by unfold a_mkW; rw [if_pos rfl]))
        · exact absurd (by decide) h54
  ·
    have L : ∀ (d : Nat) (x : Int64 × Int64), d ≤ 10 → (a_wkL σ node d x).1 = a_mkW σ node r → mw p l e { frames := 4, cells := 0, slots := 0, locals := 89 } s m args below meth c (MQ below (mw_Qc true D vCl cA ad sh_Mo 22 s.heap.size (S) (mw_Pv (fun S' => mR cn fv (a_mkV fy σ node r) S'))) args s 0 0 A) 0 0 D vCl cA A ad sh_Mo 22 11 (51) ([(8, .inl (nI d)), (4, .inr (.inl x.1)), (6, .inr (.inl x.2)), (3, .inl (nI (a_mkS σ node r))), (0, .inr (.inr 0)), (1, .inl (nI node)), (2, .inl (nI r))]) ([]) (S) := by
      intro d
      induction d with
      | zero =>
        intro x hd he
        refine mw_iload C d_Mo_makeVertex_51 rfl ?_
        refine mw_iconst C (v := nI 1) d_Mo_makeVertex_53 (by decide) ?_
        refine mw_icmp_ltN C 140 d_Mo_makeVertex_54 (by decide) (by omega) (by omega) (fun h54 => ?_) (fun h54 => ?_)
        ·
          exact mw_to _ (by exact And.intro rfl (And.intro rfl (And.intro rfl (And.intro rfl (And.intro rfl (trivial)))))) (K _ he)
        · exfalso; omega
      | succ d ih =>
        intro x hd he
        have I : ∀ (ds i : Nat) (y : Int64 × Int64), i + ds = 4 → y = a_wk4 σ node d i x → mw p l e { frames := 4, cells := 0, slots := 0, locals := 89 } s m args below meth c (MQ below (mw_Qc true D vCl cA ad sh_Mo 22 s.heap.size (S) (mw_Pv (fun S' => mR cn fv (a_mkV fy σ node r) S'))) args s 0 0 A) 0 0 D vCl cA A ad sh_Mo 22 11 (60) ([(9, .inl (nI i)), (8, .inl (nI (d + 1))), (4, .inr (.inl y.1)), (6, .inr (.inl y.2)), (3, .inl (nI (a_mkS σ node r))), (0, .inr (.inr 0)), (1, .inl (nI node)), (2, .inl (nI r))]) ([]) (S) := by
          intro ds
          induction ds with
          | zero =>
            intro i y hi hy
            obtain rfl : i = 4 := by omega
            refine mw_iload C d_Mo_makeVertex_60 rfl ?_
            refine mw_iconst C (v := nI 4) d_Mo_makeVertex_62 (by decide) ?_
            refine mw_icmp_geN C 134 d_Mo_makeVertex_63 (by decide) (by omega) (by omega) (fun h63 => ?_) (fun h63 => ?_)
            ·
              refine mw_idecN C d_Mo_makeVertex_134 rfl (by decide) ?_
              refine mw_goto C 51 d_Mo_makeVertex_137 (by decide) ?_
              refine mw_to _ (by exact And.intro rfl (And.intro rfl (And.intro rfl (And.intro rfl (And.intro rfl (And.intro rfl (And.intro rfl (trivial)))))))) (ih y (by omega) ?_)
              rw [← he, a_wkL, hy]
            · exfalso; omega
          | succ ds ih2 =>
            intro i y hi hy
            have h9i := hI.f9 (48 * node + (4 * d + i))
            refine mw_iload C d_Mo_makeVertex_60 rfl ?_
            refine mw_iconst C (v := nI 4) d_Mo_makeVertex_62 (by decide) ?_
            refine mw_icmp_geN C 134 d_Mo_makeVertex_63 (by decide) (by omega) (by omega) (fun h63 => ?_) (fun h63 => ?_)
            · exfalso; omega
            ·
              refine mw_iconst C (v := nI 4) d_Mo_makeVertex_66 (by decide) ?_
              refine mw_iload C d_Mo_makeVertex_67 rfl ?_
              refine mw_iconst C (v := nI 1) d_Mo_makeVertex_69 (by decide) ?_
              refine mw_isubN C d_Mo_makeVertex_70 (by omega) ?_
              refine mw_imulN C d_Mo_makeVertex_71 ?_
              refine mw_iload C d_Mo_makeVertex_72 rfl ?_
              refine mw_iaddN C d_Mo_makeVertex_74 ?_
              refine mw_istore C d_Mo_makeVertex_75 (by decide) ?_
              refine mw_aload_n C 0 d_Mo_makeVertex_77 rfl rfl ?_
              refine mw_getr C f_Mo_36 d_Mo_makeVertex_78 (by decide) rfl rfl ?_
              refine mw_bipush C (v := nI 48) d_Mo_makeVertex_81 (by decide) ?_
              refine mw_iload_n C 1 d_Mo_makeVertex_83 rfl rfl ?_
              refine mw_imulN C d_Mo_makeVertex_84 ?_
              refine mw_iload C d_Mo_makeVertex_85 rfl ?_
              refine mw_iaddN C d_Mo_makeVertex_87 ?_
              refine mw_eqi (show _ = nI (48 * node + (4 * d + i)) from by congr 1) ?_
              refine mo_zald C h d_Mo_makeVertex_88 (by decide) rfl rfl (by omega) (by decide) ?_
              refine mw_if_eqN C 128 d_Mo_makeVertex_89 (by decide) (by omega) (fun h89 => ?_) (fun h89 => ?_)
              ·
                refine mw_iincN C d_Mo_makeVertex_128 rfl (by decide) ?_
                refine mw_goto C 60 d_Mo_makeVertex_131 (by decide) ?_
                refine mw_to _ (by exact And.intro rfl (And.intro rfl (And.intro rfl (And.intro rfl (And.intro rfl (And.intro rfl (And.intro rfl (And.intro rfl (trivial))))))))) (ih2 (i + 1) y (by omega) ?_)
                rw [a_wk4, ← hy, a_wkS, if_neg (fun hh => by omega)]
              ·
                refine mw_lload C d_Mo_makeVertex_92 rfl ?_
                refine mw_iload C d_Mo_makeVertex_94 rfl ?_
                refine mw_eqi (show _ = nI (4 * d + i) from by congr 1) ?_
                refine mw_lshr C d_Mo_makeVertex_96 ?_
                refine mw_lconst C (v := 1) d_Mo_makeVertex_97 (by decide) ?_
                refine mw_land C d_Mo_makeVertex_98 ?_
                refine mw_lconst C (v := 0) d_Mo_makeVertex_99 (by decide) ?_
                refine mw_lcmp C d_Mo_makeVertex_100 ?_
                refine mw_if_ne C 128 d_Mo_makeVertex_101 (by decide) (fun h101 => ?_) (fun h101 => ?_)
                ·
                  refine mw_iincN C d_Mo_makeVertex_128 rfl (by decide) ?_
                  refine mw_goto C 60 d_Mo_makeVertex_131 (by decide) ?_
                  refine mw_to _ (by exact And.intro rfl (And.intro rfl (And.intro rfl (And.intro rfl (And.intro rfl (And.intro rfl (And.intro rfl (And.intro rfl (trivial))))))))) (ih2 (i + 1) y (by omega) ?_)
                  rw [a_wk4, ← hy, a_wkS, if_neg (fun hh => h101 ((lg_cmp_eq _ _).mpr ((lb_is0 _ (by omega)).mpr hh.2)))]
                ·
                  have hb := (lb_is0 _ (show 4 * d + i < 64 from by omega)).mp ((lg_cmp_eq _ _).mp h101)
                  refine mw_lload C d_Mo_makeVertex_104 rfl ?_
                  refine mw_lconst C (v := 1) d_Mo_makeVertex_106 (by decide) ?_
                  refine mw_iload C d_Mo_makeVertex_107 rfl ?_
                  refine mw_eqi (show _ = nI (4 * d + i) from by congr 1) ?_
                  refine mw_lshl C d_Mo_makeVertex_109 ?_
                  refine mw_eql (one_shl (by omega)) ?_
                  refine mw_lor C d_Mo_makeVertex_110 ?_
                  refine mw_lstore C d_Mo_makeVertex_111 (by decide) ?_
                  refine mw_aload_n C 0 d_Mo_makeVertex_113 rfl rfl ?_
                  refine mw_iload_n C 1 d_Mo_makeVertex_114 rfl rfl ?_
                  refine mw_lload C d_Mo_makeVertex_115 rfl ?_
                  refine mw_lconst C (v := 1) d_Mo_makeVertex_117 (by decide) ?_
                  refine mw_iload C d_Mo_makeVertex_118 rfl ?_
                  refine mw_eqi (show _ = nI (4 * d + i) from by congr 1) ?_
                  refine mw_lshl C d_Mo_makeVertex_120 ?_
                  refine mw_eql (one_shl (by omega)) ?_
                  refine mw_lor C d_Mo_makeVertex_121 ?_
                  refine mw_iconst C (v := nI 0) d_Mo_makeVertex_122 (by decide) ?_
                  refine mw_run0l C ix_Mo (mw_invV C (kk := 0) (m_Mo_below l D cA cn fv σ node 0 _ _ (mR_rs h) hn (by decide) (fun q hq => hI.a80 hn hq) hI.pl hI.st) ix_Mo kb_Mo_154 wm_Mo_below wv_Mo_below (by decide) rfl rfl d_Mo_makeVertex_123 rfl rfl (Nat.le_of_ble_eq_true rfl) rfl rfl ⟨by decide, by decide⟩ ⟨Nat.zero_le _, Nat.zero_le _⟩) (fun x123 e123 => ?_)
                  subst e123
                  refine mw_lstore C d_Mo_makeVertex_126 (by decide) ?_
                  refine mw_iincN C d_Mo_makeVertex_128 rfl (by decide) ?_
                  refine mw_goto C 60 d_Mo_makeVertex_131 (by decide) ?_
                  refine mw_to _ (by exact And.intro rfl (And.intro rfl (And.intro rfl (And.intro rfl (And.intro rfl (And.intro rfl (And.intro rfl (And.intro rfl (trivial))))))))) (ih2 (i + 1) (y.1 ||| lN (2 ^ (4 * d + i)), a_below σ node false 48 (y.2 ||| lN (2 ^ (4 * d + i)))) (by omega) ?_)
                  rw [a_wk4, ← hy, a_wkS, if_pos ⟨by omega, hb⟩]
        refine mw_iload C d_Mo_makeVertex_51 rfl ?_
        refine mw_iconst C (v := nI 1) d_Mo_makeVertex_53 (by decide) ?_
        refine mw_icmp_ltN C 140 d_Mo_makeVertex_54 (by decide) (by omega) (by omega) (fun h54 => ?_) (fun h54 => ?_)
        · exfalso; omega
        ·
          refine mw_iconst C (v := nI 0) d_Mo_makeVertex_57 (by decide) ?_
          refine mw_istore C d_Mo_makeVertex_58 (by decide) ?_
          exact mw_to _ (by exact And.intro rfl (And.intro rfl (And.intro rfl (And.intro rfl (And.intro rfl (And.intro rfl (And.intro rfl (And.intro rfl (trivial))))))))) (I 4 0 x rfl rfl)
    refine mw_iload_n C 2 d_Mo_makeVertex_0 rfl rfl ?_
    refine mw_iconst C (v := nI 1) d_Mo_makeVertex_1 (by decide) ?_
    refine mw_icmp_neN C 9 d_Mo_makeVertex_2 (by decide) (by omega) (by omega) (fun h2 => ?_) (fun h2 => ?_)
    ·
      refine mw_aload_n C 0 d_Mo_makeVertex_9 rfl rfl ?_
      refine mw_iload_n C 1 d_Mo_makeVertex_10 rfl rfl ?_
      refine mw_iload_n C 2 d_Mo_makeVertex_11 rfl rfl ?_
      refine mw_iconst C (v := nI 1) d_Mo_makeVertex_12 (by decide) ?_
      refine mw_isubN C d_Mo_makeVertex_13 (by omega) ?_
      refine mw_run0i C ix_Mo (mw_invV C (kk := 0) (m_Mo_inRound l D cA cn fv σ node (r - 1) _ (mR_rs h) hn (by omega) (by omega) hI.f9) ix_Mo kb_Mo_168 wm_Mo_inRound wv_Mo_inRound (by decide) rfl rfl d_Mo_makeVertex_14 rfl rfl (Nat.le_of_ble_eq_true rfl) rfl rfl ⟨by decide, by decide⟩ ⟨Nat.zero_le _, Nat.zero_le _⟩) (fun x14 e14 => ?_)
      subst e14
      refine mw_eqi (show _ = nI (a_mkS σ node r) from by rw [a_mkS, if_neg hr1]) ?_
      refine mw_istore_n C 3 d_Mo_makeVertex_17 rfl (by decide) ?_
      refine mw_lconst C (v := 0) d_Mo_makeVertex_18 (by decide) ?_
      refine mw_lstore C d_Mo_makeVertex_19 (by decide) ?_
      refine mw_iload_n C 2 d_Mo_makeVertex_21 rfl rfl ?_
      refine mw_iconst C (v := nI 1) d_Mo_makeVertex_22 (by decide) ?_
      refine mw_icmp_neN C 30 d_Mo_makeVertex_23 (by decide) (by omega) (by omega) (fun h23 => ?_) (fun h23 => ?_)
      ·
        refine mw_aload_n C 0 d_Mo_makeVertex_30 rfl rfl ?_
        refine mw_iload_n C 1 d_Mo_makeVertex_31 rfl rfl ?_
        refine mw_iload_n C 3 d_Mo_makeVertex_32 rfl rfl ?_
        refine mw_i2l C d_Mo_makeVertex_33 ?_
        refine mw_iconst C (v := nI 4) d_Mo_makeVertex_34 (by decide) ?_
        refine mw_iload_n C 2 d_Mo_makeVertex_35 rfl rfl ?_
        refine mw_iconst C (v := nI 2) d_Mo_makeVertex_36 (by decide) ?_
        refine mw_isubN C d_Mo_makeVertex_37 (by omega) ?_
        refine mw_imulN C d_Mo_makeVertex_38 ?_
        refine mw_lshl C d_Mo_makeVertex_39 ?_
        refine mw_eql (show _ = lN (a_mkS σ node r * 2 ^ (4 * (r - 2))) from by rw [nI_l (by omega), wb_shl _ (by omega)]) ?_
        refine mw_iconst C (v := nI 0) d_Mo_makeVertex_40 (by decide) ?_
        refine mw_run0l C ix_Mo (mw_invV C (kk := 0) (m_Mo_below l D cA cn fv σ node 0 _ _ (mR_rs h) hn (by decide) (fun q hq => hI.a80 hn hq) hI.pl hI.st) ix_Mo kb_Mo_154 wm_Mo_below wv_Mo_below (by decide) rfl rfl d_Mo_makeVertex_41 rfl rfl (Nat.le_of_ble_eq_true rfl) rfl rfl ⟨by decide, by decide⟩ ⟨Nat.zero_le _, Nat.zero_le _⟩) (fun x41 e41 => ?_)
        subst e41
        refine mw_eql (show _ = a_mkR σ node r from by rw [a_mkR, if_neg hr1]; rfl) ?_
        refine mw_lstore C d_Mo_makeVertex_44 (by decide) ?_
        refine mw_iload_n C 2 d_Mo_makeVertex_46 rfl rfl ?_
        refine mw_iconst C (v := nI 2) d_Mo_makeVertex_47 (by decide) ?_
        refine mw_isubN C d_Mo_makeVertex_48 (by omega) ?_
        refine mw_istore C d_Mo_makeVertex_49 (by decide) ?_
        refine mw_to _ (by exact And.intro rfl (And.intro rfl (And.intro rfl (And.intro rfl (And.intro rfl (And.intro rfl (And.intro rfl (trivial)))))))) (L (r - 2) (0, a_mkR σ node r) (by omega) ?_)
        rw [a_mkW, if_neg hr1]
      · exact absurd h23 hr1
    · exact absurd h2 hr1
