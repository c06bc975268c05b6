/-! the node's methods: votes, and what is accepted -/
def a_V (σ : aS) : Prop := ∀ n q v, n < 4 → q < 48 → 1 ≤ v → (3 ≤ a_noted (σ.1 12) (48 * n + q) v 4 → ¬ σ.1 7 (48 * n + q) = 0) ∧ (2 ≤ a_noted (σ.1 13) (48 * n + q) v 4 → ¬ σ.1 7 (48 * n + q) = 0) ∧ (3 ≤ a_noted (σ.1 13) (48 * n + q) v 4 → ¬ σ.1 8 (48 * n + q) = 0)
theorem note_eq {f : Nat → Int32} {g : Nat → Nat} {n q v : Nat} (hq : q < 48) (hv : v < 80) (hf : ∀ j, j < 192 → f j = nI (g (192 * n + j))) (hg : ∀ j, g j < 80) : ∀ k, k ≤ 4 → vo_n f q (nI v) k = a_noted g (48 * n + q) v k
  | 0, _ => rfl
  | k + 1, hk => by
    rw [vo_n, a_noted, note_eq hq hv hf hg k (by omega), hf (4 * q + k) (by omega), show 192 * n + (4 * q + k) = 4 * (48 * n + q) + k from by omega]
    congr 1
    have hgk := hg (4 * (48 * n + q) + k)
    by_cases e : g (4 * (48 * n + q) + k) = v
    · rw [if_pos (by rw [e]), if_pos e]
    · rw [if_neg (fun h => e (nI_eqN (by omega) (by omega) h)), if_neg e]
theorem vo_f_up {f : Nat → Int32} {g : Nat → Nat} {n q fr v : Nat} (hq : q < 48) (hfr : fr < 4) (hf : ∀ j, j < 192 → f j = nI (g (192 * n + j))) (h0 : g (4 * (48 * n + q) + fr) = 0) : ∀ j, j < 192 → vo_f f (4 * q + fr) (nI v) j = nI (if 192 * n + j = 4 * (48 * n + q) + fr then v else g (192 * n + j)) := by
  intro j hj
  have e0 : f (4 * q + fr) = 0 := by
    rw [hf _ (by omega), show 192 * n + (4 * q + fr) = 4 * (48 * n + q) + fr from by omega, h0]
    rfl
  unfold vo_f
  rw [if_pos e0]
  unfold upd
  by_cases e : j = 4 * q + fr
  · rw [if_pos e, if_pos (by omega)]
  · rw [if_neg e, if_neg (by omega)]
    exact hf j hj
theorem vo_f_id {f : Nat → Int32} {g : Nat → Nat} {n q fr : Nat} {v : Int32} (hq : q < 48) (hfr : fr < 4) (hf : ∀ j, j < 192 → f j = nI (g (192 * n + j))) (hg : ∀ j, g j < 80) (h0 : ¬ g (4 * (48 * n + q) + fr) = 0) : vo_f f (4 * q + fr) v = f := by
  unfold vo_f
  rw [if_neg]
  rw [hf _ (by omega), show 192 * n + (4 * q + fr) = 4 * (48 * n + q) + fr from by omega]
  have := hg (4 * (48 * n + q) + fr)
  exact nI_ne0 (by omega) (by omega)
theorem nR_12 {cn : Int32} {fy node : Nat} {σ : aS} {S S1 : mw_S} (h : nR cn fy node σ S) (j v : Nat) (hev : ∀ i, i < 192 → S1.1 1 i = nI (if 192 * node + i = j then v else σ.1 12 (192 * node + i))) : nR cn fy node (a_up σ 12 j v) (mw_mg S [10, 11] S1) := (nR_mk (h.se) (h.co) (by rw [a_setF_ne _ (by decide)]; exact h.ec) (by rw [a_setF_ne _ (by decide)]; exact h.rd) (h.ow) (h.cm) (h.lw) (by rw [a_setF_ne _ (by decide)]; exact h.ad) (h.ac) (fun q hq => by rw [a_row_up _ _ _ _ (by decide)]; exact h.pa q hq) (fun q hq => by rw [a_row_up _ _ _ _ (by decide)]; exact h.sp q hq) (by rw [a_setF_ne _ (by decide)]; exact h.en) (h.oc) (h.od) (h.ba) (h.qc) (h.qu) (fun i hi => by
    refine (hev i hi).trans ?_
    rw [a_up_at]
    by_cases e : 192 * node + i = j
    · rw [if_pos e, if_pos ⟨rfl, e⟩]
    · rw [if_neg e, if_neg (fun hh => e hh.2)]) (h.rv) (h.vn) (h.vp) (h.vs) (h.vw) (h.vt) (h.si) (h.mc) (h.mw))
theorem nR_13 {cn : Int32} {fy node : Nat} {σ : aS} {S S1 : mw_S} (h : nR cn fy node σ S) (j v : Nat) (hev : ∀ i, i < 192 → S1.1 1 i = nI (if 192 * node + i = j then v else σ.1 13 (192 * node + i))) : nR cn fy node (a_up σ 13 j v) (mw_mg S [12, 13] S1) := (nR_mk (h.se) (h.co) (by rw [a_setF_ne _ (by decide)]; exact h.ec) (by rw [a_setF_ne _ (by decide)]; exact h.rd) (h.ow) (h.cm) (h.lw) (by rw [a_setF_ne _ (by decide)]; exact h.ad) (h.ac) (fun q hq => by rw [a_row_up _ _ _ _ (by decide)]; exact h.pa q hq) (fun q hq => by rw [a_row_up _ _ _ _ (by decide)]; exact h.sp q hq) (by rw [a_setF_ne _ (by decide)]; exact h.en) (h.oc) (h.od) (h.ba) (h.qc) (h.qu) (h.ev) (fun i hi => by
    refine (hev i hi).trans ?_
    rw [a_up_at]
    by_cases e : 192 * node + i = j
    · rw [if_pos e, if_pos ⟨rfl, e⟩]
    · rw [if_neg e, if_neg (fun hh => e hh.2)]) (h.vn) (h.vp) (h.vs) (h.vw) (h.vt) (h.si) (h.mc) (h.mw))
theorem nR_12s {cn : Int32} {fy node : Nat} {σ : aS} {S S1 : mw_S} (h : nR cn fy node σ S) (hev : ∀ i, i < 192 → S1.1 1 i = S.1 11 i) : nR cn fy node σ (mw_mg S [10, 11] S1) := (nR_mk (h.se) (h.co) (h.ec) (h.rd) (h.ow) (h.cm) (h.lw) (h.ad) (h.ac) (h.pa) (h.sp) (h.en) (h.oc) (h.od) (h.ba) (h.qc) (h.qu) (fun i hi => (hev i hi).trans (h.ev i hi)) (h.rv) (h.vn) (h.vp) (h.vs) (h.vw) (h.vt) (h.si) (h.mc) (h.mw))
theorem nR_13s {cn : Int32} {fy node : Nat} {σ : aS} {S S1 : mw_S} (h : nR cn fy node σ S) (hev : ∀ i, i < 192 → S1.1 1 i = S.1 13 i) : nR cn fy node σ (mw_mg S [12, 13] S1) := (nR_mk (h.se) (h.co) (h.ec) (h.rd) (h.ow) (h.cm) (h.lw) (h.ad) (h.ac) (h.pa) (h.sp) (h.en) (h.oc) (h.od) (h.ba) (h.qc) (h.qu) (h.ev) (fun i hi => (hev i hi).trans (h.rv i hi)) (h.vn) (h.vp) (h.vs) (h.vw) (h.vt) (h.si) (h.mc) (h.mw))
set_option maxHeartbeats 4000000 in
set_option maxRecDepth 100000 in
theorem m_No_receiveEcho (l : Launch) (D : va_G) (cA : Nat → ClassId) (cn : Int32) (σ : aS) (fy B node fr v : Nat) (S : mw_S) (h : nR cn fy node σ S) (hI : aI fy B σ) (hV : a_V σ) (hB : B ≤ 2240) (hn : node < 4) (hf : fr < 4) (hv1 : 1 ≤ v) (hv : v ≤ σ.1 0 5) : mw_M true l lw_tbl y_No_receiveEcho b_No_receiveEcho 4 none { frames := 3, cells := 0, slots := 0, locals := 70 } D vCl cA sh_No 22 [.inr (.inr 0), .inl (nI fr), .inl (nI v)] (S) (mw_Pv (fun S' => nR cn fy node (a_echoC fy σ fr node v (48 * node + σ.1 1 v)) S')) := by
  refine mw_M_of (by decide) (Nat.le_of_ble_eq_true rfl) ?_
  intro p e s m args below meth c A ad C hR
  have h72 := hI.v72
  have hp := hI.pl v
  have hg := fun j => (hI.vo j).1
  refine mw_aload_n C 0 d_No_receiveEcho_0 rfl rfl ?_
  refine mw_getr C f_No_46 d_No_receiveEcho_1 (by decide) rfl rfl ?_
  refine mw_getr C f_No_63 d_No_receiveEcho_4 (by decide) rfl rfl ?_
  refine mw_iload_n C 2 d_No_receiveEcho_7 rfl rfl ?_
  refine mw_ialdN C d_No_receiveEcho_8 (by decide) rfl (by omega) (by decide) ?_
  refine mw_eqi (h.vp v (by omega)) ?_
  refine mw_istore_n C 3 d_No_receiveEcho_9 rfl (by decide) ?_
  refine mw_aload_n C 0 d_No_receiveEcho_10 rfl rfl ?_
  refine mw_getr C f_No_28 d_No_receiveEcho_11 (by decide) rfl rfl ?_
  refine mw_iload_n C 1 d_No_receiveEcho_14 rfl rfl ?_
  refine mw_iload_n C 3 d_No_receiveEcho_15 rfl rfl ?_
  refine mw_iload_n C 2 d_No_receiveEcho_16 rfl rfl ?_
  refine mw_runi C ix_Ve1_No rfl (mw_invV C (kk := 0) (m_Vo_note l D cA fr (σ.1 1 v) (nI v) _ hf hp) ix_Ve1_No kb_No_90 wm_Vo_note wv_Vo_note (by decide) rfl rfl d_No_receiveEcho_17 rfl rfl (Nat.le_of_ble_eq_true rfl) rfl rfl ⟨by decide, by decide⟩ ⟨Nat.zero_le _, Nat.zero_le _⟩) (fun x17 S17 e17 => ?_)
  obtain ⟨e1, e2⟩ := e17
  by_cases h0 : σ.1 12 (4 * (48 * node + σ.1 1 v) + fr) = 0
  ·
    have hup := vo_f_up (f := S.1 11) (v := v) hp hf h.ev h0
    have hN : nR cn fy node (a_up σ 12 (4 * (48 * node + σ.1 1 v) + fr) v) (mw_mg S [10, 11] S17) := nR_12 h _ _ (fun i hi => by rw [e1]; exact hup i hi)
    have hI1 := aI_12 hI (4 * (48 * node + σ.1 1 v) + fr) (v := v) (by omega)
    have hle := a_noted_le ((a_up σ 12 (4 * (48 * node + σ.1 1 v) + fr) v).1 12) (48 * node + σ.1 1 v) v 4
    have hcnt : vo_n (vo_f (S.1 11) (4 * σ.1 1 v + fr) (nI v)) (σ.1 1 v) (nI v) 4 = a_noted ((a_up σ 12 (4 * (48 * node + σ.1 1 v) + fr) v).1 12) (48 * node + σ.1 1 v) v 4 := note_eq hp (by omega) (fun j hj => by
      rw [hup j hj, a_up_at]
      by_cases e : 192 * node + j = 4 * (48 * node + σ.1 1 v) + fr
      · rw [if_pos e, if_pos ⟨rfl, e⟩]
      · rw [if_neg e, if_neg (fun hh => e hh.2)]) (fun j => (hI1.vo j).1) 4 (Nat.le_refl _)
    refine mw_eqi (show _ = nI (a_noted ((a_up σ 12 (4 * (48 * node + σ.1 1 v) + fr) v).1 12) (48 * node + σ.1 1 v) v 4) from by
      rw [e2, ← hcnt]
      refine if_pos ?_
      show vo_f (S.1 11) (4 * σ.1 1 v + fr) (nI v) (4 * σ.1 1 v + fr) = nI v
      rw [hup _ (by omega), if_pos (by omega)]) ?_
    refine mw_iconst C (v := nI 3) d_No_receiveEcho_20 (by decide) ?_
    refine mw_icmp_ltN C 30 d_No_receiveEcho_21 (by decide) (by omega) (by omega) (fun h21 => ?_) (fun h21 => ?_)
    ·
      refine mw_vret C hR d_No_receiveEcho_30 ?_
      rw [a_echoC, if_pos h0, if_neg (by omega)]
      exact hN
    ·
      refine mw_aload_n C 0 d_No_receiveEcho_24 rfl rfl ?_
      refine mw_iload_n C 3 d_No_receiveEcho_25 rfl rfl ?_
      refine mw_iload_n C 2 d_No_receiveEcho_26 rfl rfl ?_
      refine mw_runv C ix_No_No rfl (mw_invV C (kk := 0) (m_No_broadcastReadyOnce l D cA cn _ fy B node (σ.1 1 v) v _ (nR_rs hN) hI1 hB hn hp (by omega)) ix_No_No kb_No_94 wm_No_broadcastReadyOnce wv_No_broadcastReadyOnce (by decide) rfl rfl d_No_receiveEcho_27 rfl rfl (Nat.le_of_ble_eq_true rfl) rfl rfl ⟨by decide, by decide⟩ ⟨Nat.zero_le _, Nat.zero_le _⟩) (fun S27 e27 => ?_)
      refine mw_vret C hR d_No_receiveEcho_30 ?_
      rw [a_echoC, if_pos h0, if_pos (by omega)]
      exact nR_mg e27
  ·
    have hid := vo_f_id (f := S.1 11) (v := nI v) hp hf h.ev hg h0
    have hN : nR cn fy node σ (mw_mg S [10, 11] S17) := nR_12s h (fun i hi => by rw [e1]; exact congrFun hid i)
    have hcnt : vo_n (S.1 11) (σ.1 1 v) (nI v) 4 = a_noted (σ.1 12) (48 * node + σ.1 1 v) v 4 := note_eq hp (by omega) h.ev hg 4 (Nat.le_refl _)
    have hle := a_noted_le (σ.1 12) (48 * node + σ.1 1 v) v 4
    have hVv := (hV node (σ.1 1 v) v hn hp hv1).1
    have hx : ∃ c, c ≤ 4 ∧ x17 = nI c ∧ (3 ≤ c → ¬ σ.1 7 (48 * node + σ.1 1 v) = 0) := by
      have e3 : x17 = if S.1 11 (4 * σ.1 1 v + fr) = nI v then nI (vo_n (S.1 11) (σ.1 1 v) (nI v) 4) else nI 0 := by
        rw [e2]
        show (if vo_f (S.1 11) (4 * σ.1 1 v + fr) (nI v) (4 * σ.1 1 v + fr) = nI v then nI (vo_n (vo_f (S.1 11) (4 * σ.1 1 v + fr) (nI v)) (σ.1 1 v) (nI v) 4) else nI 0) = _
        rw [hid]
      rw [hcnt] at e3
      by_cases e : S.1 11 (4 * σ.1 1 v + fr) = nI v
      · rw [if_pos e] at e3
        exact ⟨_, hle, e3, hVv⟩
      · rw [if_neg e] at e3
        exact ⟨0, by decide, e3, fun hh => by omega⟩
    obtain ⟨c0, hc4, rfl, hc⟩ := hx
    rw [a_echoC, if_neg h0]
    refine mw_iconst C (v := nI 3) d_No_receiveEcho_20 (by decide) ?_
    refine mw_icmp_ltN C 30 d_No_receiveEcho_21 (by decide) (by omega) (by omega) (fun h21 => ?_) (fun h21 => ?_)
    ·
      refine mw_vret C hR d_No_receiveEcho_30 ?_
      exact hN
    ·
      refine mw_aload_n C 0 d_No_receiveEcho_24 rfl rfl ?_
      refine mw_iload_n C 3 d_No_receiveEcho_25 rfl rfl ?_
      refine mw_iload_n C 2 d_No_receiveEcho_26 rfl rfl ?_
      refine mw_runv C ix_No_No rfl (mw_invV C (kk := 0) (m_No_broadcastReadyOnce l D cA cn _ fy B node (σ.1 1 v) v _ (nR_rs hN) hI hB hn hp (by omega)) ix_No_No kb_No_94 wm_No_broadcastReadyOnce wv_No_broadcastReadyOnce (by decide) rfl rfl d_No_receiveEcho_27 rfl rfl (Nat.le_of_ble_eq_true rfl) rfl rfl ⟨by decide, by decide⟩ ⟨Nat.zero_le _, Nat.zero_le _⟩) (fun S27 e27 => ?_)
      refine mw_vret C hR d_No_receiveEcho_30 ?_
      rw [a_ready, if_neg (hc (by omega))] at e27
      exact nR_mg e27
theorem a_gi_8 {σ : aS} {node q v : Nat} (hg : a_gi σ node) (h0 : σ.1 9 (48 * node + q) = 0) : a_gi (a_up σ 8 (48 * node + q) v) node := by
  intro p hp h9
  have h9' : ¬ σ.1 9 (48 * node + p) = 0 := h9
  have hne : p ≠ q := fun e => h9' (by rw [e]; exact h0)
  have e8 : (a_up σ 8 (48 * node + q) v).1 8 (48 * node + p) = σ.1 8 (48 * node + p) := a_up_j _ _ _ _ (by omega)
  rw [e8]
  exact hg p hp h9'
theorem a_gi_9 {fy B : Nat} {σ : aS} (hI : aI fy B σ) {node q : Nat} (hn : node < 4) (hq : q < 48) (hg : a_gi σ node) (hc : a_cn σ node q = true) : a_gi (a_up σ 9 (48 * node + q) 1) node := by
  obtain ⟨c1, c2, c3, c4⟩ := (a_canB_iff _ _ _ _).mp hc
  have up : ∀ b, ¬ σ.1 9 (48 * node + b) = 0 → ¬ (a_up σ 9 (48 * node + q) 1).1 9 (48 * node + b) = 0 := fun b hb => by
    rw [a_up_at]
    split
    · decide
    · exact hb
  intro p hp h9
  by_cases e : p = q
  · subst e
    refine ⟨c1, c3, fun b hb hl => ?_⟩
    have h1 := a_pt_lt (hI.st _) ((hI.ac node p hn hp).2 (by omega)) hp c3 hl
    refine ⟨h1, up b ?_⟩
    have h2 := lb_sub.mp c4 b hb hl
    rw [lb_graph _ _ hb 48 (by decide), Bool.and_eq_true] at h2
    have h3 := h2.2
    intro h0
    rw [decide_eq_true h0] at h3
    cases h3
  · have h9' : ¬ σ.1 9 (48 * node + p) = 0 := by
      rw [a_up_j _ _ _ _ (by omega)] at h9
      exact h9
    obtain ⟨g1, g2, g3⟩ := hg p hp h9'
    exact ⟨g1, g2, fun b hb hl => ⟨(g3 b hb hl).1, up b (g3 b hb hl).2⟩⟩
theorem a_gi_addL {fy B : Nat} {σ : aS} (hI : aI fy B σ) {node : Nat} (hn : node < 4) (hg : a_gi σ node) : ∀ q, q ≤ 48 → a_gi (a_addL node q σ) node
  | 0, _ => hg
  | q + 1, hq => by
    rw [a_addL]
    split
    · rename_i hc
      exact a_gi_9 (aI_addL hI node q) hn (by omega) (a_gi_addL hI hn hg q (by omega)) hc
    · exact a_gi_addL hI hn hg q (by omega)
theorem a_row_9 (σ : aS) (node q : Nat) (so : Bool) : ∀ i, i ≠ q → a_row (a_up σ 9 (48 * node + q) 1) node so i = a_row σ node so i := by
  intro i hi
  unfold a_row
  rw [a_up_j _ _ _ _ (by omega)]
  split
  · rfl
  · exact bl_eq (σ := σ) (τ := a_up σ 9 (48 * node + q) 1) node so (fun _ => rfl) (fun _ => rfl) (fun _ => rfl) rfl 48 _
/-- the class's way upwards, step by step -/
theorem pass_eq {fy B : Nat} {σ : aS} (hI : aI fy B σ) {node : Nat} (hn : node < 4) (hg : a_gi σ node) {acc vp vs : Nat → Nat} {T : mw_S} (hacc : ∀ q, q < 48 → acc q = σ.1 8 (48 * node + q)) (hvp : ∀ u, u < 73 → vp u = σ.1 1 u) (hvs : ∀ u, u < 73 → vs u = σ.1 2 u) (hw : ∀ u, u < 73 → T.2 7 u = σ.2.1 u) (h4 : T.2 0 4 = a_setF σ 9 node 48) (h2 : ∀ q, q < 48 → T.2 2 q = a_row σ node false q) (h3 : ∀ q, q < 48 → T.2 3 q = a_row σ node true q) : ∀ n, n ≤ 48 → (gr_pass acc vp vs n T).2 7 = T.2 7 ∧ (gr_pass acc vp vs n T).2 0 4 = a_setF (a_addL node n σ) 9 node 48 ∧ (∀ q, q < 48 → (gr_pass acc vp vs n T).2 2 q = a_row (a_addL node n σ) node false q) ∧ ∀ q, q < 48 → (gr_pass acc vp vs n T).2 3 q = a_row (a_addL node n σ) node true q
  | 0, _ => ⟨rfl, h4, h2, h3⟩
  | n + 1, hn1 => by
    obtain ⟨i7, i4, i2, i3⟩ := pass_eq hI hn hg hacc hvp hvs hw h4 h2 h3 n (by omega)
    have hIn := aI_addL hI node n
    have hgn := a_gi_addL hI hn hg n (by omega)
    have kp := a_add_kp node σ n
    have k : ∀ f j, f ≠ 9 → (a_addL node n σ).1 f j = σ.1 f j := fun f j hf => kp.1 f j hf
    have kw : (a_addL node n σ).2.1 = σ.2.1 := by rw [kp.2]
    have h72 := hI.v72
    have hal := (hI.ac node n hn (by omega)).1
    have ea : acc n = (a_addL node n σ).1 8 (48 * node + n) := by rw [k 8 _ (by decide)]; exact hacc n (by omega)
    rw [gr_pass, a_addL]
    generalize gr_pass acc vp vs n T = U at *
    generalize a_addL node n σ = τ at *
    have hlb : lb (U.2 0 4) n = !decide (τ.1 9 (48 * node + n) = 0) := by rw [i4, lb_set (by omega)]
    have ha73 : acc n < 73 := by rw [hacc n (by omega)]; omega
    have er : ve_right (vp (acc n)) (vs (acc n)) (U.2 7 (acc n)) = a_right τ (τ.1 8 (48 * node + n)) := by
      unfold a_right
      rw [← ea, k 1 _ (by decide), k 2 _ (by decide), kw, hvp _ ha73, hvs _ ha73, i7, hw _ ha73]
    have ed : ve_down (vp (acc n)) (vs (acc n)) = a_points τ (τ.1 8 (48 * node + n)) true := by
      unfold a_points
      rw [if_pos rfl, ← ea, k 1 _ (by decide), k 2 _ (by decide), hvp _ ha73, hvs _ ha73]
    have ep : ve_down (vp (acc n)) (vs (acc n)) ||| U.2 7 (acc n) = a_points τ (τ.1 8 (48 * node + n)) false := by
      unfold a_points
      rw [if_neg (by decide), ← ea, k 1 _ (by decide), k 2 _ (by decide), kw, hvp _ ha73, hvs _ ha73, i7, hw _ ha73]
    by_cases hc : a_cn τ node n = true
    · obtain ⟨c1, c2, c3, c4⟩ := (a_canB_iff _ _ _ _).mp hc
      have hin : a_in τ node (a_points τ (τ.1 8 (48 * node + n)) false) := fun b hb hl => by
        have h5 := lb_sub.mp c4 b hb hl
        rw [lb_graph _ _ hb 48 (by decide), Bool.and_eq_true] at h5
        refine ⟨of_decide_eq_true h5.1, fun h0 => ?_⟩
        have h6 := h5.2
        rw [decide_eq_true h0] at h6
        cases h6
      rw [if_pos ⟨by rw [ea]; exact c1, by rw [hlb, decide_eq_true c2]; rfl⟩, if_pos hc, gr_addS, er, ep, ed, if_pos ⟨c3, by rw [i4, a_set9]; exact c4⟩]
      have ef : gr_follow (U.2 2) (a_points τ (τ.1 8 (48 * node + n)) false) 48 = a_row (a_up τ 9 (48 * node + n) 1) node false n := by
        rw [bl_follow hgn false i2 hin, a_row, if_neg (by rw [a_up_s]; decide)]
        exact (bl_eq (σ := τ) (τ := a_up τ 9 (48 * node + n) 1) node false (fun _ => rfl) (fun _ => rfl) (fun _ => rfl) rfl 48 _).symm
      have eg : gr_follow (U.2 3) (a_points τ (τ.1 8 (48 * node + n)) true) 48 = a_row (a_up τ 9 (48 * node + n) 1) node true n := by
        rw [bl_follow hgn true i3 (fun b hb hl => hin b hb (a_pt_so hl)), a_row, if_neg (by rw [a_up_s]; decide)]
        exact (bl_eq (σ := τ) (τ := a_up τ 9 (48 * node + n) 1) node true (fun _ => rfl) (fun _ => rfl) (fun _ => rfl) rfl 48 _).symm
      refine ⟨i7, ?_, fun q hq => ?_, fun q hq => ?_⟩
      · show vp_updL (U.2 0) 4 (U.2 0 4 ||| lN (2 ^ n)) 4 = _
        unfold vp_updL
        rw [if_pos rfl, i4, a_setF_up _ _ _ (by omega)]
      · show vp_updL (U.2 2) n (gr_follow (U.2 2) _ 48) q = _
        unfold vp_updL
        by_cases e : q = n
        · rw [if_pos e, e]
          exact ef
        · rw [if_neg e, a_row_9 _ _ _ _ _ e]
          exact i2 q hq
      · show vp_updL (U.2 3) n (gr_follow (U.2 3) _ 48) q = _
        unfold vp_updL
        by_cases e : q = n
        · rw [if_pos e, e]
          exact eg
        · rw [if_neg e, a_row_9 _ _ _ _ _ e]
          exact i3 q hq
    · rw [if_neg hc]
      have es : (if 0 < acc n ∧ lb (U.2 0 4) n = false then gr_addS U n (acc n) (vp (acc n)) (vs (acc n)) else U) = U := by
        split
        · rename_i h5
          rw [gr_addS, er, ep, if_neg (fun h6 => hc ((a_canB_iff _ _ _ _).mpr ⟨by rw [← ea]; exact h5.1, ?_, h6.1, ?_⟩))]
          · have h7 := h5.2
            rw [hlb] at h7
            by_cases h8 : τ.1 9 (48 * node + n) = 0
            · exact h8
            · rw [decide_eq_false h8] at h7
              cases h7
          · have h7 := h6.2
            rw [i4, a_set9] at h7
            exact h7
        · rfl
      rw [es]
      exact ⟨i7, i4, i2, i3⟩
