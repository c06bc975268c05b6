/-! the node's methods: what it broadcasts -/
theorem bl_eq {σ τ : aS} (node : Nat) (so : Bool) (h1 : ∀ j, τ.1 1 j = σ.1 1 j) (h2 : ∀ j, τ.1 2 j = σ.1 2 j) (h8 : ∀ j, τ.1 8 j = σ.1 8 j) (hw : τ.2.1 = σ.2.1) : ∀ (n : Nat) (x : Int64), a_below τ node so n x = a_below σ node so n x
  | 0, _ => rfl
  | n + 1, x => by
    have hp : ∀ v, a_points τ v so = a_points σ v so := fun v => by unfold a_points; rw [h1, h2, hw]
    rw [a_below, a_below, h8, hp]
    exact bl_eq node so h1 h2 h8 hw n _
theorem a_row_eq {σ τ : aS} (node : Nat) (so : Bool) (q : Nat) (h1 : ∀ j, τ.1 1 j = σ.1 1 j) (h2 : ∀ j, τ.1 2 j = σ.1 2 j) (h8 : ∀ j, τ.1 8 j = σ.1 8 j) (h9 : ∀ j, τ.1 9 j = σ.1 9 j) (hw : τ.2.1 = σ.2.1) : a_row τ node so q = a_row σ node so q := by
  have hp : ∀ v, a_points τ v so = a_points σ v so := fun v => by unfold a_points; rw [h1, h2, hw]
  unfold a_row
  rw [h9, h8, hp, bl_eq node so h1 h2 h8 hw]
theorem a_row_up (σ : aS) (node : Nat) (so : Bool) (q : Nat) {f : Nat} (hf : f ≠ 1 ∧ f ≠ 2 ∧ f ≠ 8 ∧ f ≠ 9) (j x : Nat) : a_row (a_up σ f j x) node so q = a_row σ node so q :=
  a_row_eq node so q (fun _ => a_up_f _ _ _ _ (Ne.symm hf.1)) (fun _ => a_up_f _ _ _ _ (Ne.symm hf.2.1)) (fun _ => a_up_f _ _ _ _ (Ne.symm hf.2.2.1)) (fun _ => a_up_f _ _ _ _ (Ne.symm hf.2.2.2)) rfl
theorem a_setF_ne (σ : aS) {f g : Nat} (h : g ≠ f) (node j x : Nat) : a_setF (a_up σ f j x) g node 48 = a_setF σ g node 48 := a_setF_eq (fun _ _ => a_up_f _ _ _ _ h)
theorem slv_eq {fy c : Nat} (hc : c < 4) : nI c = slv fy ↔ c = fy := by
  unfold slv
  by_cases h : fy < 4
  · rw [if_pos h]
    exact ⟨fun e => nI_eqN (by omega) (by omega) e, fun e => by rw [e]⟩
  · rw [if_neg h]
    have hd : ∀ c, c < 4 → ¬ nI c = -1 := by decide
    exact ⟨fun e => absurd e (hd c hc), fun e => by omega⟩
theorem cast_eq {fy a b v : Nat} (ha : a < 4) (hb : b < 4) (hv : v < 80) {σ : aS} {f : Nat → Int32} (hf : ∀ k, k < σ.1 0 12 → f k = nI (a_cls (σ.1 5 k))) : ∀ c, c ≤ 4 → (ma_cast (slv fy) a b v c (f, σ.1 0 12)).2 = (a_cast fy a b v c σ).1 0 12 ∧ ∀ k, k < (a_cast fy a b v c σ).1 0 12 → (ma_cast (slv fy) a b v c (f, σ.1 0 12)).1 k = nI (a_cls ((a_cast fy a b v c σ).1 5 k))
  | 0, _ => ⟨rfl, hf⟩
  | c + 1, hc => by
    obtain ⟨h1, h2⟩ := cast_eq ha hb hv (fy := fy) hf c (by omega)
    rw [ma_cast, a_cast, a_send]
    by_cases e : c = fy
    · rw [if_pos ((slv_eq (by omega)).mpr e), if_pos e]
      exact ⟨h1, h2⟩
    · rw [if_neg (fun h => e ((slv_eq (by omega)).mp h)), if_neg e]
      refine ⟨?_, fun k hk => ?_⟩
      · rw [a_up_s, ← h1]
      · rw [a_up_s] at hk
        rw [a_up_f _ _ _ _ (by decide), a_up_at]
        show upd _ _ _ k = _
        unfold upd
        rw [h1]
        by_cases e2 : k = (a_cast fy a b v c σ).1 0 12
        · rw [if_pos e2, if_pos ⟨rfl, e2⟩]
          congr 1
          unfold a_cls a_msg
          omega
        · rw [if_neg e2, if_neg (fun h => e2 h.2)]
          exact h2 k (by omega)
theorem nR_cast {cn : Int32} {fy node : Nat} {σ τ : aS} {S S1 : mw_S} (h : nR cn fy node σ S) (hk : a_kp a_S σ τ) (h0 : ∀ j, j ≠ 12 → τ.1 0 j = σ.1 0 j) (hs : S1.1 0 0 = S.1 20 0) (hmc : S1.1 0 2 = nI (τ.1 0 12)) (hmw : ∀ k, k < τ.1 0 12 → S1.1 1 k = nI (a_cls (τ.1 5 k))) : nR cn fy node τ (mw_mg S [20, 21] S1) := by
  have k : ∀ f j, f ≠ 0 → f ≠ 5 → τ.1 f j = σ.1 f j := fun f j a b => hk.1 f j (by unfold a_S; omega)
  have kr : ∀ so q, a_row τ node so q = a_row σ node so q := fun so q => a_row_eq node so q (fun j => k 1 j (by decide) (by decide)) (fun j => k 2 j (by decide) (by decide)) (fun j => k 8 j (by decide) (by decide)) (fun j => k 9 j (by decide) (by decide)) (by rw [hk.2])
  have ks : ∀ f, f ≠ 0 → f ≠ 5 → a_setF τ f node 48 = a_setF σ f node 48 := fun f a b => a_setF_eq (fun q _ => k f _ a b)
  exact (nR_mk (h.se) (h.co) (by rw [ks 6 (by decide) (by decide)]; exact h.ec) (by rw [ks 7 (by decide) (by decide)]; exact h.rd) (by rw [k 14 _ (by decide) (by decide)]; exact h.ow) (by rw [k 16 _ (by decide) (by decide)]; exact h.cm) (by rw [k 15 _ (by decide) (by decide)]; exact h.lw) (by rw [ks 9 (by decide) (by decide)]; exact h.ad) (fun q hq => by rw [k 8 _ (by decide) (by decide)]; exact h.ac q hq) (fun q hq => by rw [kr]; exact h.pa q hq) (fun q hq => by rw [kr]; exact h.sp q hq) (by rw [ks 10 (by decide) (by decide)]; exact h.en) (by rw [k 17 _ (by decide) (by decide)]; exact h.oc) (fun i hi => by rw [k 17 _ (by decide) (by decide)] at hi; rw [k 11 _ (by decide) (by decide)]; exact h.od i hi) (fun j hj => by rw [k 18 _ (by decide) (by decide)]; exact h.ba j hj) (by rw [k 20 _ (by decide) (by decide)]; exact h.qc) (fun i hi => by rw [k 20 _ (by decide) (by decide)] at hi; rw [k 19 _ (by decide) (by decide)]; exact h.qu i hi) (fun j hj => by rw [k 12 _ (by decide) (by decide)]; exact h.ev j hj) (fun j hj => by rw [k 13 _ (by decide) (by decide)]; exact h.rv j hj) (by rw [h0 5 (by decide)]; exact h.vn) (fun v hv => by rw [k 1 _ (by decide) (by decide)]; exact h.vp v hv) (fun v hv => by rw [k 2 _ (by decide) (by decide)]; exact h.vs v hv) (fun v hv => by rw [show τ.2.1 = σ.2.1 from by rw [hk.2]]; exact h.vw v hv) (fun v hv => by rw [k 4 _ (by decide) (by decide)]; exact h.vt v hv) (hs.trans h.si) hmc hmw)
theorem nR_cast2 {cn : Int32} {fy node a b v : Nat} {σ : aS} {S S1 : mw_S} (h : nR cn fy node σ S) (ha : a < 4) (hb : b < 4) (hv : v < 80) (e : S1 = mw_uI (mw_rI (mw_rs S [20, 21]) 1 (ma_cast (slv fy) a b v 4 ((mw_rs S [20, 21]).1 1, σ.1 0 12)).1) 0 2 (nI (ma_cast (slv fy) a b v 4 ((mw_rs S [20, 21]).1 1, σ.1 0 12)).2)) : nR cn fy node (a_cast fy a b v 4 σ) (mw_mg S [20, 21] S1) := by
  have hc := cast_eq (fy := fy) ha hb hv (σ := σ) (f := (mw_rs S [20, 21]).1 1) (fun k hk => h.mw k hk) 4 (Nat.le_refl _)
  subst e
  exact nR_cast h (a_cast_kp fy a b v σ 4).1 (a_cast_kp fy a b v σ 4).2 rfl (by rw [← hc.1]; rfl) (fun k hk => hc.2 k hk)
theorem nR_7 {cn : Int32} {fy node : Nat} {σ : aS} {S : mw_S} (h : nR cn fy node σ S) {q : Nat} (hq : q < 48) : nR cn fy node (a_up σ 7 (48 * node + q) 1) (mw_uL S 0 11 (S.2 0 11 ||| lN (2 ^ q))) := (nR_mk (h.se) (h.co) (by rw [a_setF_ne _ (by decide)]; exact h.ec) (by rw [a_setF_up _ _ _ hq, ← h.rd]; rfl) (h.ow) (h.cm) (h.lw) (by rw [a_setF_ne _ (by decide)]; exact h.ad) (h.ac) (fun q hq => by rw [a_row_up _ _ _ _ (by decide)]; exact h.pa q hq) (fun q hq => by rw [a_row_up _ _ _ _ (by decide)]; exact h.sp q hq) (by rw [a_setF_ne _ (by decide)]; exact h.en) (h.oc) (h.od) (h.ba) (h.qc) (h.qu) (h.ev) (h.rv) (h.vn) (h.vp) (h.vs) (h.vw) (h.vt) (h.si) (h.mc) (h.mw))
theorem nR_6 {cn : Int32} {fy node : Nat} {σ : aS} {S : mw_S} (h : nR cn fy node σ S) {q : Nat} (hq : q < 48) : nR cn fy node (a_up σ 6 (48 * node + q) 1) (mw_uL S 0 10 (S.2 0 10 ||| lN (2 ^ q))) := (nR_mk (h.se) (h.co) (by rw [a_setF_up _ _ _ hq, ← h.ec]; rfl) (by rw [a_setF_ne _ (by decide)]; exact h.rd) (h.ow) (h.cm) (h.lw) (by rw [a_setF_ne _ (by decide)]; exact h.ad) (h.ac) (fun q hq => by rw [a_row_up _ _ _ _ (by decide)]; exact h.pa q hq) (fun q hq => by rw [a_row_up _ _ _ _ (by decide)]; exact h.sp q hq) (by rw [a_setF_ne _ (by decide)]; exact h.en) (h.oc) (h.od) (h.ba) (h.qc) (h.qu) (h.ev) (h.rv) (h.vn) (h.vp) (h.vs) (h.vw) (h.vt) (h.si) (h.mc) (h.mw))
set_option maxHeartbeats 4000000 in
set_option maxRecDepth 100000 in
theorem m_No_broadcastReadyOnce (l : Launch) (D : va_G) (cA : Nat → ClassId) (cn : Int32) (σ : aS) (fy B node q v : Nat) (S : mw_S) (h : nR cn fy node σ S) (hI : aI fy B σ) (hB : B ≤ 2240) (hn : node < 4) (hq : q < 48) (hv : v < 80) : mw_M true l lw_tbl y_No_broadcastReadyOnce b_No_broadcastReadyOnce 3 none { frames := 2, cells := 0, slots := 0, locals := 48 } D vCl cA sh_No 22 [.inr (.inr 0), .inl (nI q), .inl (nI v)] (S) (mw_Pv (fun S' => nR cn fy node (a_ready fy σ node v (48 * node + q)) S')) := by
  refine mw_M_of (by decide) (Nat.le_of_ble_eq_true rfl) ?_
  intro p e s m args below meth c A ad C hR
  refine mw_aload_n C 0 d_No_broadcastReadyOnce_0 rfl rfl ?_
  refine mw_getl C f_No_105 d_No_broadcastReadyOnce_1 (by decide) rfl rfl ?_
  refine mw_iload_n C 1 d_No_broadcastReadyOnce_4 rfl rfl ?_
  refine mw_run0i C (ix0 _ _) (mw_invS C (m_Wl_contains l D cA (S.2 0 11) q (by omega) _) (ix0 _ _) kb_No_76 ws_Wl_contains d_No_broadcastReadyOnce_5 rfl rfl (Nat.le_of_ble_eq_true rfl) rfl rfl ⟨by decide, by decide⟩ ⟨Nat.zero_le _, Nat.zero_le _⟩) (fun x5 e5 => ?_)
  subst e5
  have e1 : lb (S.2 0 11) q = !decide (σ.1 7 (48 * node + q) = 0) := by rw [h.rd, lb_set hq]
  by_cases h7 : σ.1 7 (48 * node + q) = 0
  ·
    refine mw_eqi (show _ = nI 0 from by rw [e1, decide_eq_true h7]; rfl) ?_
    refine mw_if_neN C 37 d_No_broadcastReadyOnce_8 (by decide) (by omega) (fun h8 => ?_) (fun h8 => ?_)
    · exfalso; omega
    ·
      refine mw_aload_n C 0 d_No_broadcastReadyOnce_11 rfl rfl ?_
      refine mw_dup C d_No_broadcastReadyOnce_12 rfl ?_
      refine mw_getl C f_No_105 d_No_broadcastReadyOnce_13 (by decide) rfl rfl ?_
      refine mw_iload_n C 1 d_No_broadcastReadyOnce_16 rfl rfl ?_
      refine mw_run0l C (ix0 _ _) (mw_invS C (m_Wl_bitOf l D cA q (by omega) _) (ix0 _ _) kb_No_80 ws_Wl_bitOf d_No_broadcastReadyOnce_17 rfl rfl (Nat.le_of_ble_eq_true rfl) rfl rfl ⟨by decide, by decide⟩ ⟨Nat.zero_le _, Nat.zero_le _⟩) (fun x17 e17 => ?_)
      subst e17
      have hm := (aI_7 hI (j := 48 * node + q) (by omega) h7).2.m
      have hm4 := (aI_7 hI (j := 48 * node + q) (by omega) h7).1
      have hm2 : σ.1 0 12 ≤ B - 4 := hm
      refine mw_lor C d_No_broadcastReadyOnce_20 ?_
      refine mw_putl C rfl f_No_105 p_No_11 d_No_broadcastReadyOnce_21 (by decide) rfl rfl ?_
      refine mw_aload_n C 0 d_No_broadcastReadyOnce_24 rfl rfl ?_
      refine mw_getr C f_No_50 d_No_broadcastReadyOnce_25 (by decide) rfl rfl ?_
      refine mw_iconst C (v := nI 2) d_No_broadcastReadyOnce_28 (by decide) ?_
      refine mw_aload_n C 0 d_No_broadcastReadyOnce_29 rfl rfl ?_
      refine mw_geti C f_No_39 d_No_broadcastReadyOnce_30 (by decide) rfl rfl ?_
      refine mw_eqi (show _ = nI node from h.se) ?_
      refine mw_iload_n C 2 d_No_broadcastReadyOnce_33 rfl rfl ?_
      refine mw_runv C ix_Ma_No rfl (mw_invV C (kk := 0) (m_Ma_broadcast l D cA 2 node v (slv fy) _ (σ.1 0 12) (by decide) hn (by omega) (by omega) h.mc h.si) ix_Ma_No kb_No_84 wm_Ma_broadcast wv_Ma_broadcast (by decide) rfl rfl d_No_broadcastReadyOnce_34 rfl rfl (Nat.le_of_ble_eq_true rfl) rfl rfl ⟨by decide, by decide⟩ ⟨Nat.zero_le _, Nat.zero_le _⟩) (fun S34 e34 => ?_)
      refine mw_vret C hR d_No_broadcastReadyOnce_37 ?_
      rw [a_ready, if_pos h7]
      exact nR_cast2 (nR_7 h hq) (by decide) hn hv e34
  ·
    refine mw_eqi (show _ = nI 1 from by rw [e1, decide_eq_false h7]; rfl) ?_
    refine mw_if_neN C 37 d_No_broadcastReadyOnce_8 (by decide) (by omega) (fun h8 => ?_) (fun h8 => ?_)
    ·
      refine mw_vret C hR d_No_broadcastReadyOnce_37 ?_
      rw [a_ready, if_neg h7]
      exact h
    · exfalso; omega
set_option maxHeartbeats 4000000 in
set_option maxRecDepth 100000 in
theorem m_No_receiveSend (l : Launch) (D : va_G) (cA : Nat → ClassId) (cn : Int32) (σ : aS) (fy B node fr v : Nat) (S : mw_S) (h : nR cn fy node σ S) (hI : aI fy B σ) (hB : B ≤ 2240) (hn : node < 4) (hf : fr < 4) (hv : v ≤ σ.1 0 5) : mw_M true l lw_tbl y_No_receiveSend b_No_receiveSend 4 none { frames := 2, cells := 0, slots := 0, locals := 48 } D vCl cA sh_No 22 [.inr (.inr 0), .inl (nI fr), .inl (nI v)] (S) (mw_Pv (fun S' => nR cn fy node (a_sendC fy σ fr node v (48 * node + σ.1 1 v)) S')) := by
  refine mw_M_of (by decide) (Nat.le_of_ble_eq_true rfl) ?_
  intro p e s m args below meth c A ad C hR
  have h72 := hI.v72
  have hp := hI.pl v
  refine mw_aload_n C 0 d_No_receiveSend_0 rfl rfl ?_
  refine mw_getr C f_No_46 d_No_receiveSend_1 (by decide) rfl rfl ?_
  refine mw_getr C f_No_63 d_No_receiveSend_4 (by decide) rfl rfl ?_
  refine mw_iload_n C 2 d_No_receiveSend_7 rfl rfl ?_
  refine mw_ialdN C d_No_receiveSend_8 (by decide) rfl (by omega) (by decide) ?_
  refine mw_eqi (h.vp v (by omega)) ?_
  refine mw_istore_n C 3 d_No_receiveSend_9 rfl (by decide) ?_
  refine mw_iload_n C 1 d_No_receiveSend_10 rfl rfl ?_
  refine mw_aload_n C 0 d_No_receiveSend_11 rfl rfl ?_
  refine mw_getr C f_No_46 d_No_receiveSend_12 (by decide) rfl rfl ?_
  refine mw_iload_n C 2 d_No_receiveSend_15 rfl rfl ?_
  refine mw_run0i C ix_Ve_No (mw_invV C (kk := 0) (m_Ve_sourceOf l D cA v (σ.1 1 v) _ (by omega) (by omega) (h.vp v (by omega))) ix_Ve_No kb_No_68 wm_Ve_sourceOf wv_Ve_sourceOf (by decide) rfl rfl d_No_receiveSend_16 rfl rfl (Nat.le_of_ble_eq_true rfl) rfl rfl ⟨by decide, by decide⟩ ⟨Nat.zero_le _, Nat.zero_le _⟩) (fun x16 e16 => ?_)
  subst e16
  refine mw_icmp_neN C 59 d_No_receiveSend_19 (by decide) (by omega) (by omega) (fun h19 => ?_) (fun h19 => ?_)
  ·
    refine mw_vret C hR d_No_receiveSend_59 ?_
    rw [a_sendC, if_neg (fun hh => h19 hh.1)]
    exact h
  ·
    refine mw_aload_n C 0 d_No_receiveSend_22 rfl rfl ?_
    refine mw_getl C f_No_72 d_No_receiveSend_23 (by decide) rfl rfl ?_
    refine mw_iload_n C 3 d_No_receiveSend_26 rfl rfl ?_
    refine mw_run0i C (ix0 _ _) (mw_invS C (m_Wl_contains l D cA (S.2 0 10) (σ.1 1 v) (by omega) _) (ix0 _ _) kb_No_76 ws_Wl_contains d_No_receiveSend_27 rfl rfl (Nat.le_of_ble_eq_true rfl) rfl rfl ⟨by decide, by decide⟩ ⟨Nat.zero_le _, Nat.zero_le _⟩) (fun x27 e27 => ?_)
    subst e27
    have e1 : lb (S.2 0 10) (σ.1 1 v) = !decide (σ.1 6 (48 * node + σ.1 1 v) = 0) := by rw [h.ec, lb_set hp]
    by_cases h6 : σ.1 6 (48 * node + σ.1 1 v) = 0
    ·
      refine mw_eqi (show _ = nI 0 from by rw [e1, decide_eq_true h6]; rfl) ?_
      refine mw_if_neN C 59 d_No_receiveSend_30 (by decide) (by omega) (fun h30 => ?_) (fun h30 => ?_)
      · exfalso; omega
      ·
        refine mw_aload_n C 0 d_No_receiveSend_33 rfl rfl ?_
        refine mw_dup C d_No_receiveSend_34 rfl ?_
        refine mw_getl C f_No_72 d_No_receiveSend_35 (by decide) rfl rfl ?_
        refine mw_iload_n C 3 d_No_receiveSend_38 rfl rfl ?_
        refine mw_run0l C (ix0 _ _) (mw_invS C (m_Wl_bitOf l D cA (σ.1 1 v) (by omega) _) (ix0 _ _) kb_No_80 ws_Wl_bitOf d_No_receiveSend_39 rfl rfl (Nat.le_of_ble_eq_true rfl) rfl rfl ⟨by decide, by decide⟩ ⟨Nat.zero_le _, Nat.zero_le _⟩) (fun x39 e39 => ?_)
        subst e39
        have hm := (aI_6 hI (j := 48 * node + σ.1 1 v) (by omega) h6).2.m
        have hm4 := (aI_6 hI (j := 48 * node + σ.1 1 v) (by omega) h6).1
        have hm2 : σ.1 0 12 ≤ B - 4 := hm
        refine mw_lor C d_No_receiveSend_42 ?_
        refine mw_putl C rfl f_No_72 p_No_10 d_No_receiveSend_43 (by decide) rfl rfl ?_
        refine mw_aload_n C 0 d_No_receiveSend_46 rfl rfl ?_
        refine mw_getr C f_No_50 d_No_receiveSend_47 (by decide) rfl rfl ?_
        refine mw_iconst C (v := nI 1) d_No_receiveSend_50 (by decide) ?_
        refine mw_aload_n C 0 d_No_receiveSend_51 rfl rfl ?_
        refine mw_geti C f_No_39 d_No_receiveSend_52 (by decide) rfl rfl ?_
        refine mw_eqi (show _ = nI node from h.se) ?_
        refine mw_iload_n C 2 d_No_receiveSend_55 rfl rfl ?_
        refine mw_runv C ix_Ma_No rfl (mw_invV C (kk := 0) (m_Ma_broadcast l D cA 1 node v (slv fy) _ (σ.1 0 12) (by decide) hn (by omega) (by omega) h.mc h.si) ix_Ma_No kb_No_84 wm_Ma_broadcast wv_Ma_broadcast (by decide) rfl rfl d_No_receiveSend_56 rfl rfl (Nat.le_of_ble_eq_true rfl) rfl rfl ⟨by decide, by decide⟩ ⟨Nat.zero_le _, Nat.zero_le _⟩) (fun S56 e56 => ?_)
        refine mw_vret C hR d_No_receiveSend_59 ?_
        rw [a_sendC, if_pos ⟨h19, h6⟩]
        exact nR_cast2 (nR_6 h hp) (by decide) hn (by omega) e56
    ·
      refine mw_eqi (show _ = nI 1 from by rw [e1, decide_eq_false h6]; rfl) ?_
      refine mw_if_neN C 59 d_No_receiveSend_30 (by decide) (by omega) (fun h30 => ?_) (fun h30 => ?_)
      ·
        refine mw_vret C hR d_No_receiveSend_59 ?_
        rw [a_sendC, if_neg (fun hh => h6 hh.2)]
        exact h
      · exfalso; omega
