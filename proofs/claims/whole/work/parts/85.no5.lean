/-! the node's methods: READY comes -/
theorem a_gi_eq {σ τ : aS} {node : Nat} (hg : a_gi σ node) (h1 : ∀ j, τ.1 1 j = σ.1 1 j) (h2 : ∀ j, τ.1 2 j = σ.1 2 j) (h8 : ∀ j, τ.1 8 j = σ.1 8 j) (h9 : ∀ j, τ.1 9 j = σ.1 9 j) (hw : τ.2.1 = σ.2.1) : a_gi τ node := by
  have hp : ∀ v so, a_points τ v so = a_points σ v so := fun v so => by unfold a_points; rw [h1, h2, hw]
  have hr : ∀ v, a_right τ v = a_right σ v := fun v => by unfold a_right; rw [h1, h2, hw]
  intro q hq h
  rw [h9] at h
  obtain ⟨g1, g2, g3⟩ := hg q hq h
  rw [h8, hr]
  refine ⟨g1, g2, fun b hb hl => ?_⟩
  rw [hp] at hl
  rw [h9]
  exact g3 b hb hl
theorem a_ready_kp (fy : Nat) (σ : aS) (to v at_ : Nat) : a_kp (fun f => f = 0 ∨ f = 5 ∨ f = 7) σ (a_ready fy σ to v at_) := by
  unfold a_ready
  split
  · exact a_kp_t (a_kp_u (fs := fun f => f = 0 ∨ f = 5 ∨ f = 7) (f := 7) (by decide) _ _ _) (a_kp_w (a_cast_kp _ _ _ _ _ 4).1 (fun f hf => by unfold a_S at hf; omega))
  · exact a_kp_r _ _
theorem a_gi_kp {σ τ : aS} {node : Nat} {fs : Nat → Prop} (hg : a_gi σ node) (hk : a_kp fs σ τ) (hf : ¬ fs 1 ∧ ¬ fs 2 ∧ ¬ fs 8 ∧ ¬ fs 9) : a_gi τ node :=
  a_gi_eq hg (fun j => hk.1 1 j hf.1) (fun j => hk.1 2 j hf.2.1) (fun j => hk.1 8 j hf.2.2.1) (fun j => hk.1 9 j hf.2.2.2) (by rw [hk.2])
theorem nR_acc {cn : Int32} {fy node : Nat} {σ τ : aS} {S S1 : mw_S} {q v : Nat} (h : nR cn fy node σ S) (hk : a_kp (fun f => f = 9) (a_up σ 8 (48 * node + q) v) τ) (e1 : S1.1 = (mw_uI (mw_rs S [1, 2, 3, 4, 15, 16, 17, 18, 19]) 1 q (nI v)).1) (e7 : S1.2 7 = S.2 18) (e4 : S1.2 0 4 = a_setF τ 9 node 48) (e2 : ∀ i, i < 48 → S1.2 2 i = a_row τ node false i) (e3 : ∀ i, i < 48 → S1.2 3 i = a_row τ node true i) : nR cn fy node τ (mw_mg S [1, 2, 3, 4, 15, 16, 17, 18, 19] S1) := by
  have k : ∀ f j, f ≠ 9 → f ≠ 8 → τ.1 f j = σ.1 f j := fun f j a b => (hk.1 f j a).trans (a_up_f _ _ _ _ b)
  have ks : ∀ f, f ≠ 9 → f ≠ 8 → a_setF τ f node 48 = a_setF σ f node 48 := fun f a b => a_setF_eq (fun i _ => k f _ a b)
  exact (nR_mk (h.se) (h.co) (by rw [ks 6 (by decide) (by decide)]; exact h.ec) (by rw [ks 7 (by decide) (by decide)]; exact h.rd) (by rw [k 14 _ (by decide) (by decide)]; exact h.ow) (by rw [k 16 _ (by decide) (by decide)]; exact h.cm) (by rw [k 15 _ (by decide) (by decide)]; exact h.lw) e4 (fun i hi => by
      show S1.1 1 i = _
      rw [e1, hk.1 8 _ (by decide), mw_uI_1, if_pos rfl]
      unfold upd
      by_cases e : i = q
      · rw [if_pos e, e, a_up_s]
      · rw [if_neg e, a_up_j _ _ _ _ (by omega)]
        exact h.ac i hi) e2 e3 (by rw [ks 10 (by decide) (by decide)]; exact h.en) (by rw [k 17 _ (by decide) (by decide)]; exact h.oc) (fun i hi => by rw [k 17 _ (by decide) (by decide)] at hi; rw [k 11 _ (by decide) (by decide)]; exact h.od i hi) (fun j hj => by rw [k 18 _ (by decide) (by decide)]; exact h.ba j hj) (by rw [k 20 _ (by decide) (by decide)]; exact h.qc) (fun i hi => by rw [k 20 _ (by decide) (by decide)] at hi; rw [k 19 _ (by decide) (by decide)]; exact h.qu i hi) (fun j hj => by rw [k 12 _ (by decide) (by decide)]; exact h.ev j hj) (fun j hj => by rw [k 13 _ (by decide) (by decide)]; exact h.rv j hj) (by show S1.1 4 4 = _; rw [e1, k 0 _ (by decide) (by decide)]; exact h.vn) (fun u hu => by show S1.1 5 u = _; rw [e1, k 1 _ (by decide) (by decide)]; exact h.vp u hu) (fun u hu => by show S1.1 6 u = _; rw [e1, k 2 _ (by decide) (by decide)]; exact h.vs u hu) (fun u hu => by show S1.2 7 u = _; rw [e7, show τ.2.1 = σ.2.1 from by rw [hk.2]; rfl]; exact h.vw u hu) (fun u hu => by show S1.1 8 u = _; rw [e1, k 4 _ (by decide) (by decide)]; exact h.vt u hu) (h.si) (by rw [k 0 _ (by decide) (by decide)]; exact h.mc) (fun i hi => by rw [k 0 _ (by decide) (by decide)] at hi; rw [k 5 _ (by decide) (by decide)]; exact h.mw i hi))
set_option maxHeartbeats 4000000 in
set_option maxRecDepth 100000 in
theorem m_No_receiveReady (l : Launch) (D : va_G) (cA : Nat → ClassId) (cn : Int32) (σ : aS) (fy B node fr v : Nat) (S : mw_S) (h : nR cn fy node σ S) (hI : aI fy B σ) (hV : a_V σ) (hg : a_gi σ node) (hB : B ≤ 2240) (hn : node < 4) (hf : fr < 4) (hv1 : 1 ≤ v) (hv : v ≤ σ.1 0 5) : mw_M true l lw_tbl y_No_receiveReady b_No_receiveReady 5 none { frames := 4, cells := 0, slots := 0, locals := 95 } D vCl cA sh_No 22 [.inr (.inr 0), .inl (nI fr), .inl (nI v)] (S) (mw_Pv (fun S' => nR cn fy node (a_readyC fy σ fr node v (48 * node + σ.1 1 v)) S')) := by
  refine mw_M_of (by decide) (Nat.le_of_ble_eq_true rfl) ?_
  intro p e s m args below meth c A ad C hR
  have h72 := hI.v72
  have hp := hI.pl v
  have hg13 := fun j => (hI.vo j).2
  refine mw_aload_n C 0 d_No_receiveReady_0 rfl rfl ?_
  refine mw_getr C f_No_46 d_No_receiveReady_1 (by decide) rfl rfl ?_
  refine mw_getr C f_No_63 d_No_receiveReady_4 (by decide) rfl rfl ?_
  refine mw_iload_n C 2 d_No_receiveReady_7 rfl rfl ?_
  refine mw_ialdN C d_No_receiveReady_8 (by decide) rfl (by omega) (by decide) ?_
  refine mw_eqi (h.vp v (by omega)) ?_
  refine mw_istore_n C 3 d_No_receiveReady_9 rfl (by decide) ?_
  refine mw_aload_n C 0 d_No_receiveReady_10 rfl rfl ?_
  refine mw_getr C f_No_32 d_No_receiveReady_11 (by decide) rfl rfl ?_
  refine mw_iload_n C 1 d_No_receiveReady_14 rfl rfl ?_
  refine mw_iload_n C 3 d_No_receiveReady_15 rfl rfl ?_
  refine mw_iload_n C 2 d_No_receiveReady_16 rfl rfl ?_
  refine mw_runi C ix_Ve2_No rfl (mw_invV C (kk := 0) (m_Vo_note l D cA fr (σ.1 1 v) (nI v) _ hf hp) ix_Ve2_No kb_No_90 wm_Vo_note wv_Vo_note (by decide) rfl rfl d_No_receiveReady_17 rfl rfl (Nat.le_of_ble_eq_true rfl) rfl rfl ⟨by decide, by decide⟩ ⟨Nat.zero_le _, Nat.zero_le _⟩) (fun x17 S17 e17 => ?_)
  obtain ⟨e1, e2⟩ := e17
  by_cases h0 : σ.1 13 (4 * (48 * node + σ.1 1 v) + fr) = 0
  ·
    have hup := vo_f_up (f := S.1 13) (v := v) hp hf h.rv h0
    have hN : nR cn fy node (a_up σ 13 (4 * (48 * node + σ.1 1 v) + fr) v) (mw_mg S [12, 13] S17) := nR_13 h _ _ (fun i hi => by rw [e1]; exact hup i hi)
    have hI1 := aI_13 hI (4 * (48 * node + σ.1 1 v) + fr) (v := v) (by omega)
    have hle := a_noted_le ((a_up σ 13 (4 * (48 * node + σ.1 1 v) + fr) v).1 13) (48 * node + σ.1 1 v) v 4
    have hcnt : vo_n (vo_f (S.1 13) (4 * σ.1 1 v + fr) (nI v)) (σ.1 1 v) (nI v) 4 = a_noted ((a_up σ 13 (4 * (48 * node + σ.1 1 v) + fr) v).1 13) (48 * node + σ.1 1 v) v 4 := note_eq hp (by omega) (fun j hj => by
      rw [hup j hj, a_up_at]
      by_cases e : 192 * node + j = 4 * (48 * node + σ.1 1 v) + fr
      · rw [if_pos e, if_pos ⟨rfl, e⟩]
      · rw [if_neg e, if_neg (fun hh => e hh.2)]) (fun j => (hI1.vo j).2) 4 (Nat.le_refl _)
    refine mw_eqi (show _ = nI (a_noted ((a_up σ 13 (4 * (48 * node + σ.1 1 v) + fr) v).1 13) (48 * node + σ.1 1 v) v 4) from by
      rw [e2, ← hcnt]
      refine if_pos ?_
      show vo_f (S.1 13) (4 * σ.1 1 v + fr) (nI v) (4 * σ.1 1 v + fr) = nI v
      rw [hup _ (by omega), if_pos (by omega)]) ?_
    refine mw_istore C d_No_receiveReady_20 (by decide) ?_
    refine mw_iload C d_No_receiveReady_22 rfl ?_
    refine mw_iconst C (v := nI 2) d_No_receiveReady_24 (by decide) ?_
    refine mw_icmp_ltN C 34 d_No_receiveReady_25 (by decide) (by omega) (by omega) (fun h25 => ?_) (fun h25 => ?_)
    ·
      refine mw_iload C d_No_receiveReady_34 rfl ?_
      refine mw_iconst C (v := nI 3) d_No_receiveReady_36 (by decide) ?_
      refine mw_icmp_ltN C 60 d_No_receiveReady_37 (by decide) (by omega) (by omega) (fun h37 => ?_) (fun h37 => ?_)
      ·
        refine mw_vret C hR d_No_receiveReady_60 ?_
        rw [a_readyC, if_pos h0, if_neg (fun hh => by omega), if_neg (by omega)]
        exact hN
      · exfalso; omega
    ·
      refine mw_aload_n C 0 d_No_receiveReady_28 rfl rfl ?_
      refine mw_iload_n C 3 d_No_receiveReady_29 rfl rfl ?_
      refine mw_iload_n C 2 d_No_receiveReady_30 rfl rfl ?_
      refine mw_runv C ix_No_No rfl (mw_invV C (kk := 0) (m_No_broadcastReadyOnce l D cA cn _ fy B node (σ.1 1 v) v _ (nR_rs hN) hI1 hB hn hp (by omega)) ix_No_No kb_No_94 wm_No_broadcastReadyOnce wv_No_broadcastReadyOnce (by decide) rfl rfl d_No_receiveReady_31 rfl rfl (Nat.le_of_ble_eq_true rfl) rfl rfl ⟨by decide, by decide⟩ ⟨Nat.zero_le _, Nat.zero_le _⟩) (fun S31 e31 => ?_)
      have hN2 := nR_mg (S := mw_mg S [12, 13] S17) e31
      have h8e := a_ready_8 fy (a_up σ 13 (4 * (48 * node + σ.1 1 v) + fr) v) node v (48 * node + σ.1 1 v) (48 * node + σ.1 1 v)
      have h8e2 : (a_ready fy (a_up σ 13 (4 * (48 * node + σ.1 1 v) + fr) v) node v (48 * node + σ.1 1 v)).1 8 (48 * node + σ.1 1 v) = σ.1 8 (48 * node + σ.1 1 v) := h8e
      have h1e : ∀ j, (a_ready fy (a_up σ 13 (4 * (48 * node + σ.1 1 v) + fr) v) node v (48 * node + σ.1 1 v)).1 1 j = σ.1 1 j := fun j => a_ready_1 fy _ node v _ j
      have hI2 := aI_ready hI1 (at_ := 48 * node + σ.1 1 v) hn (by omega) hv1 hv
      have hg2 : a_gi (a_ready fy (a_up σ 13 (4 * (48 * node + σ.1 1 v) + fr) v) node v (48 * node + σ.1 1 v)) node := a_gi_kp (σ := a_up σ 13 (4 * (48 * node + σ.1 1 v) + fr) v) hg (a_ready_kp fy _ node v _) (by decide)
      refine mw_iload C d_No_receiveReady_34 rfl ?_
      refine mw_iconst C (v := nI 3) d_No_receiveReady_36 (by decide) ?_
      refine mw_icmp_ltN C 60 d_No_receiveReady_37 (by decide) (by omega) (by omega) (fun h37 => ?_) (fun h37 => ?_)
      ·
        refine mw_vret C hR d_No_receiveReady_60 ?_
        rw [a_readyC, if_pos h0, if_neg (fun hh => by omega), if_pos (by omega)]
        exact hN2
      ·
        have hal := hI.a80 (n := node) (q := σ.1 1 v) hn hp
        refine mw_aload_n C 0 d_No_receiveReady_40 rfl rfl ?_
        refine mw_getr C f_No_59 d_No_receiveReady_41 (by decide) rfl rfl ?_
        refine mw_getr C f_No_98 d_No_receiveReady_44 (by decide) rfl rfl ?_
        refine mw_iload_n C 3 d_No_receiveReady_47 rfl rfl ?_
        refine mw_ialdN C d_No_receiveReady_48 (by decide) rfl (by omega) (by decide) ?_
        refine mw_eqi (show _ = nI (σ.1 8 (48 * node + σ.1 1 v)) from by rw [← h8e2]; exact hN2.ac _ hp) ?_
        refine mw_if_neN C 60 d_No_receiveReady_49 (by decide) (by omega) (fun h49 => ?_) (fun h49 => ?_)
        ·
          refine mw_vret C hR d_No_receiveReady_60 ?_
          rw [a_readyC, if_pos h0, if_neg (fun hh => by omega), if_pos (by omega)]
          exact hN2
        ·
          rw [a_readyC, if_pos h0, if_pos ⟨by omega, h49⟩]
          generalize hτ : a_ready fy (a_up σ 13 (4 * (48 * node + σ.1 1 v) + fr) v) node v (48 * node + σ.1 1 v) = τ at *
          have h72b := hI2.v72
          refine mw_aload_n C 0 d_No_receiveReady_52 rfl rfl ?_
          refine mw_getr C f_No_59 d_No_receiveReady_53 (by decide) rfl rfl ?_
          refine mw_iload_n C 2 d_No_receiveReady_56 rfl rfl ?_
          refine mw_runv C ix_Gr_No rfl (mw_invV C (kk := 0) (m_Gr_accept l D cA v (fun j => τ.1 8 (48 * node + j)) (fun u => τ.1 1 u) (fun u => τ.1 2 u) _ (by omega) (fun j hj => ⟨hN2.ac j hj, by have := (hI2.ac node j hn hj).1; show τ.1 8 (48 * node + j) < 73; omega⟩) (fun u hu => ⟨hN2.vp u hu, hI2.pl u⟩) (fun u hu => ⟨hN2.vs u hu, hI2.st u⟩)) ix_Gr_No kb_No_101 wm_Gr_accept wv_Gr_accept (by decide) rfl rfl d_No_receiveReady_57 rfl rfl (Nat.le_of_ble_eq_true rfl) rfl rfl ⟨by decide, by decide⟩ ⟨Nat.zero_le _, Nat.zero_le _⟩) (fun S57 e57 => ?_)
          refine mw_vret C hR d_No_receiveReady_60 ?_
          have h90 : τ.1 9 (48 * node + σ.1 1 v) = 0 := by
            by_cases h9 : τ.1 9 (48 * node + σ.1 1 v) = 0
            · exact h9
            · have := (hg2 _ hp h9).1
              omega
          have hv5 : v ≤ τ.1 0 5 := by
            rw [← hτ, a_ready_5]
            exact hv
          have hI3 := aI_8 hI2 hn hv5
          rw [h1e] at hI3
          have hP := pass_eq hI3 hn (a_gi_8 (v := v) hg2 h90) (acc := fun j => if j = τ.1 1 v then v else τ.1 8 (48 * node + j)) (vp := fun u => τ.1 1 u) (vs := fun u => τ.1 2 u) (T := mw_uI (mw_rs (mw_mg (mw_mg S [12, 13] S17) [0, 1, 2, 3, 4, 5, 6, 7, 8, 9, 10, 11, 12, 13, 14, 15, 16, 17, 18, 19, 20, 21] S31) [1, 2, 3, 4, 15, 16, 17, 18, 19]) 1 (τ.1 1 v) (nI v)) (fun q hq => by
              show (if q = τ.1 1 v then v else τ.1 8 (48 * node + q)) = _
              rw [h1e]
              by_cases e : q = σ.1 1 v
              · rw [if_pos e, e, a_up_s]
              · rw [if_neg e, a_up_j _ _ _ _ (by omega)]) (fun _ _ => rfl) (fun _ _ => rfl) (fun u hu => hN2.vw u hu) (by rw [a_setF_ne _ (by decide)]; exact hN2.ad) (fun q hq => by
              rw [a_row_st hg2 false (fun i hi h9 => ⟨a_up_j _ _ _ _ (fun e => h9 (by rw [show i = σ.1 1 v from by omega]; exact h90)), rfl⟩) hq rfl]
              exact hN2.pa q hq) (fun q hq => by
              rw [a_row_st hg2 true (fun i hi h9 => ⟨a_up_j _ _ _ _ (fun e => h9 (by rw [show i = σ.1 1 v from by omega]; exact h90)), rfl⟩) hq rfl]
              exact hN2.sp q hq) 48 (Nat.le_refl _)
          rw [← e57] at hP
          refine nR_acc hN2 (q := σ.1 1 v) (v := v) (a_add_kp node _ 48) ?_ hP.1 hP.2.1 hP.2.2.1 hP.2.2.2
          rw [e57, gr_pass_1, h1e]
  ·
    have hid := vo_f_id (f := S.1 13) (v := nI v) hp hf h.rv hg13 h0
    have hN : nR cn fy node σ (mw_mg S [12, 13] S17) := nR_13s h (fun i hi => by rw [e1]; exact congrFun hid i)
    have hcnt : vo_n (S.1 13) (σ.1 1 v) (nI v) 4 = a_noted (σ.1 13) (48 * node + σ.1 1 v) v 4 := note_eq hp (by omega) h.rv hg13 4 (Nat.le_refl _)
    have hle := a_noted_le (σ.1 13) (48 * node + σ.1 1 v) v 4
    have hVv := (hV node (σ.1 1 v) v hn hp hv1).2
    have hal := hI.a80 (n := node) (q := σ.1 1 v) hn hp
    have hx : ∃ c, c ≤ 4 ∧ x17 = nI c ∧ (2 ≤ c → ¬ σ.1 7 (48 * node + σ.1 1 v) = 0) ∧ (3 ≤ c → ¬ σ.1 8 (48 * node + σ.1 1 v) = 0) := by
      have e3 : x17 = if S.1 13 (4 * σ.1 1 v + fr) = nI v then nI (vo_n (S.1 13) (σ.1 1 v) (nI v) 4) else nI 0 := by
        rw [e2]
        show (if vo_f (S.1 13) (4 * σ.1 1 v + fr) (nI v) (4 * σ.1 1 v + fr) = nI v then nI (vo_n (vo_f (S.1 13) (4 * σ.1 1 v + fr) (nI v)) (σ.1 1 v) (nI v) 4) else nI 0) = _
        rw [hid]
      rw [hcnt] at e3
      by_cases e : S.1 13 (4 * σ.1 1 v + fr) = nI v
      · rw [if_pos e] at e3
        exact ⟨_, hle, e3, hVv.1, hVv.2⟩
      · rw [if_neg e] at e3
        exact ⟨0, by decide, e3, fun hh => by omega, fun hh => by omega⟩
    obtain ⟨c0, hc4, rfl, hc2, hc3⟩ := hx
    have K : ∀ S2 : mw_S, nR cn fy node σ S2 → mw p l e { frames := 4, cells := 0, slots := 0, locals := 95 } s m args below meth c (MQ below (mw_Qc true D vCl cA ad sh_No 22 s.heap.size (S) (mw_Pv (fun S' => nR cn fy node (a_readyC fy σ fr node v (48 * node + σ.1 1 v)) S'))) args s 0 0 A) 0 0 D vCl cA A ad sh_No 22 5 (34) ([(4, .inl (nI c0)), (0, .inr (.inr 0)), (3, .inl (nI (σ.1 1 v))), (2, .inl (nI v))]) ([]) (S2) := by
      intro S2 hN
      refine mw_iload C d_No_receiveReady_34 rfl ?_
      refine mw_iconst C (v := nI 3) d_No_receiveReady_36 (by decide) ?_
      refine mw_icmp_ltN C 60 d_No_receiveReady_37 (by decide) (by omega) (by omega) (fun h37 => ?_) (fun h37 => ?_)
      ·
        refine mw_vret C hR d_No_receiveReady_60 ?_
        rw [a_readyC, if_neg h0]
        exact hN
      ·
        refine mw_aload_n C 0 d_No_receiveReady_40 rfl rfl ?_
        refine mw_getr C f_No_59 d_No_receiveReady_41 (by decide) rfl rfl ?_
        refine mw_getr C f_No_98 d_No_receiveReady_44 (by decide) rfl rfl ?_
        refine mw_iload_n C 3 d_No_receiveReady_47 rfl rfl ?_
        refine mw_ialdN C d_No_receiveReady_48 (by decide) rfl (by omega) (by decide) ?_
        refine mw_eqi (show _ = nI (σ.1 8 (48 * node + σ.1 1 v)) from hN.ac _ hp) ?_
        refine mw_if_neN C 60 d_No_receiveReady_49 (by decide) (by omega) (fun h49 => ?_) (fun h49 => ?_)
        ·
          refine mw_vret C hR d_No_receiveReady_60 ?_
          rw [a_readyC, if_neg h0]
          exact hN
        · exact absurd h49 (hc3 (by omega))
    refine mw_istore C d_No_receiveReady_20 (by decide) ?_
    refine mw_iload C d_No_receiveReady_22 rfl ?_
    refine mw_iconst C (v := nI 2) d_No_receiveReady_24 (by decide) ?_
    refine mw_icmp_ltN C 34 d_No_receiveReady_25 (by decide) (by omega) (by omega) (fun h25 => ?_) (fun h25 => ?_)
    ·
      exact mw_to _ (by exact And.intro rfl (And.intro rfl (And.intro rfl (And.intro rfl (trivial))))) (K _ hN)
    ·
      refine mw_aload_n C 0 d_No_receiveReady_28 rfl rfl ?_
      refine mw_iload_n C 3 d_No_receiveReady_29 rfl rfl ?_
      refine mw_iload_n C 2 d_No_receiveReady_30 rfl rfl ?_
      refine mw_runv C ix_No_No rfl (mw_invV C (kk := 0) (m_No_broadcastReadyOnce l D cA cn _ fy B node (σ.1 1 v) v _ (nR_rs hN) hI hB hn hp (by omega)) ix_No_No kb_No_94 wm_No_broadcastReadyOnce wv_No_broadcastReadyOnce (by decide) rfl rfl d_No_receiveReady_31 rfl rfl (Nat.le_of_ble_eq_true rfl) rfl rfl ⟨by decide, by decide⟩ ⟨Nat.zero_le _, Nat.zero_le _⟩) (fun S31 e31 => ?_)
      rw [a_ready, if_neg (hc2 (by omega))] at e31
      exact mw_to _ (by exact And.intro rfl (And.intro rfl (And.intro rfl (And.intro rfl (trivial))))) (K _ (nR_mg (S := mw_mg S [12, 13] S17) e31))
