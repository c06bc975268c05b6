/-! a message arrives -/
theorem a_gi_oth {fy B i j : Nat} {σ τ : aS} (hg : a_gi σ j) (hI : aI fy B σ) (ha : a_ag i σ τ) (hj : j < 4) (hij : j ≠ i) : a_gi τ j := by
  have A48 : ∀ f, 6 ≤ f → f ≤ 11 → ∀ q, q < 48 → τ.1 f (48 * j + q) = σ.1 f (48 * j + q) := fun f f1 f2 q hq => ha.1 f _ f1 (by omega) (by rw [nd48 f2 hq]; exact hij)
  intro q hq h9
  rw [A48 9 (by decide) (by decide) q hq] at h9
  obtain ⟨g1, g2, g3⟩ := hg q hq h9
  have hv := ha.2.1 (σ.1 8 (48 * j + q)) (hI.ac j q hj hq).1
  rw [A48 8 (by decide) (by decide) q hq]
  refine ⟨g1, ?_, fun b hb hl => ?_⟩
  · unfold a_right
    rw [hv.1, hv.2.1, hv.2.2]
    exact g2
  · have hl2 : lb (a_points σ (σ.1 8 (48 * j + q)) false) b = true := by
      unfold a_points at hl ⊢
      rw [hv.1, hv.2.1, hv.2.2] at hl
      exact hl
    have h3 := g3 b hb hl2
    refine ⟨h3.1, ?_⟩
    rw [A48 9 (by decide) (by decide) b (by omega)]
    exact h3.2
theorem a_mkV_f (fy : Nat) (σ : aS) (node r j : Nat) {f : Nat} (hf : f ≠ 0 ∧ f ≠ 1 ∧ f ≠ 2 ∧ f ≠ 4 ∧ f ≠ 5 ∧ f ≠ 19 ∧ f ≠ 20) : (a_mkV fy σ node r).1 f j = σ.1 f j := by
  unfold a_mkV
  rw [(a_cast_kp _ _ _ _ _ 4).1.1 f j (by unfold a_S; omega)]
  unfold a_newV
  rw [a_up_f _ _ _ _ hf.2.2.2.1]
  show (a_up (a_up (a_up (a_first σ node).2 0 5 _) 1 _ _) 2 _ _).1 f j = _
  rw [a_up_f _ _ _ _ hf.2.2.1, a_up_f _ _ _ _ hf.2.1, a_up_f _ _ _ _ hf.1]
  exact (a_first_kp σ node).1 f j (by omega)
theorem a_step_f (cn : Int32) (fy : Nat) (σ : aS) (node j : Nat) {f : Nat} (hf : f = 7 ∨ f = 8 ∨ f = 9 ∨ f = 12 ∨ f = 13) : (a_step cn fy σ node).1 f j = σ.1 f j := by
  unfold a_step
  rw [a_mkV_f _ _ _ _ _ (by omega), a_up_f _ _ _ _ (by omega), (a_wave_kp cn σ node).1 f j (by unfold a_F; omega)]
theorem a_goL_f (cn : Int32) (fy node : Nat) {f : Nat} (hf : f = 7 ∨ f = 8 ∨ f = 9 ∨ f = 12 ∨ f = 13) (j : Nat) : ∀ (k : Nat) (σ : aS), (a_goL cn fy node k σ).1 f j = σ.1 f j
  | 0, _ => rfl
  | k + 1, σ => by
    unfold a_goL
    split
    · rw [a_goL_f cn fy node hf j k, a_step_f cn fy σ node j hf]
    · rfl
theorem a_goOn_f (cn : Int32) (fy : Nat) (σ : aS) (node j : Nat) {f : Nat} (hf : f = 7 ∨ f = 8 ∨ f = 9 ∨ f = 12 ∨ f = 13) : (a_goOn cn fy σ node).1 f j = σ.1 f j := by
  unfold a_goOn a_goE
  split
  · rw [(a_done_kp cn _ node 3).1 f j (by unfold a_F; omega), a_up_f _ _ _ _ (by omega), a_goL_f cn fy node hf]
  · exact a_goL_f cn fy node hf j 12 σ
theorem a_gi_goL {fy B : Nat} (cn : Int32) {node n : Nat} (hnd : node < 4) (hn : n < 4) : ∀ (k : Nat) {σ : aS}, aI fy B σ → a_gi σ n → a_gi (a_goL cn fy node k σ) n
  | 0, _, _, hg => hg
  | k + 1, σ, hI, hg => by
    unfold a_goL
    split
    · rename_i hc
      exact a_gi_goL cn hnd hn k (aI_step hI cn hnd hc.1) (a_gi_step hI cn hnd hn hc.1 hg)
    · exact hg
theorem a_gi_goOn {fy B : Nat} {σ : aS} (hI : aI fy B σ) (cn : Int32) {node n : Nat} (hnd : node < 4) (hn : n < 4) (hg : a_gi σ n) : a_gi (a_goOn cn fy σ node) n := by
  have h1 := a_gi_goL (fy := fy) cn hnd hn 12 hI hg
  unfold a_goOn a_goE
  split
  · exact a_gi_done (σ := a_up (a_goL cn fy node 12 σ) 15 node 1) h1
  · exact h1
theorem aJ_goOn {fy B : Nat} {σ : aS} (h : aJ fy B σ) (cn : Int32) {node : Nat} (hn : node < 4) : aJ fy B (a_goOn cn fy σ node) :=
  ⟨aI_goOn h.1 cn hn, a_V_eq h.2.1 (fun j hj => by rw [a_goOn_f cn fy σ node j (by decide)]; exact hj) (fun j hj => by rw [a_goOn_f cn fy σ node j (by decide)]; exact hj) (fun j => a_goOn_f cn fy σ node j (by decide)) (fun j => a_goOn_f cn fy σ node j (by decide)), fun n hn2 => a_gi_goOn h.1 cn hn hn2 (h.2.2 n hn2)⟩
theorem a_sendC_kp (fy : Nat) (σ : aS) (fr to v at_ : Nat) : a_kp (fun f => f = 0 ∨ f = 5 ∨ f = 6) σ (a_sendC fy σ fr to v at_) := by
  unfold a_sendC
  split
  · exact a_kp_t (a_kp_u (fs := fun f => f = 0 ∨ f = 5 ∨ f = 6) (f := 6) (by decide) _ _ _) (a_kp_w (a_cast_kp _ _ _ _ _ 4).1 (fun f hf => by unfold a_S at hf; omega))
  · exact a_kp_r _ _
theorem a_echoC_kp (fy : Nat) (σ : aS) (fr to v at_ : Nat) : a_kp (fun f => f = 0 ∨ f = 5 ∨ f = 7 ∨ f = 12) σ (a_echoC fy σ fr to v at_) := by
  unfold a_echoC
  have h1 := a_kp_u (fs := fun f => f = 0 ∨ f = 5 ∨ f = 7 ∨ f = 12) (f := 12) (by decide) σ (4 * at_ + fr) v
  split
  · split
    · exact a_kp_t h1 (a_kp_w (a_ready_kp _ _ _ _ _) (fun f hf => by omega))
    · exact h1
  · exact a_kp_r _ _
theorem a_gi_readyC {fy B : Nat} {σ : aS} (hI : aI fy B σ) {fr to v : Nat} (ht : to < 4) (hv : 1 ≤ v) (hv2 : v ≤ σ.1 0 5) (hg : a_gi σ to) : a_gi (a_readyC fy σ fr to v (48 * to + σ.1 1 v)) to := by
  have h72 := hI.v72
  have hp := hI.pl v
  have h1 := aI_13 hI (4 * (48 * to + σ.1 1 v) + fr) (v := v) (by omega)
  have g1 : a_gi (a_up σ 13 (4 * (48 * to + σ.1 1 v) + fr) v) to := hg
  have g2 := a_gi_kp g1 (a_ready_kp fy (a_up σ 13 (4 * (48 * to + σ.1 1 v) + fr) v) to v (48 * to + σ.1 1 v)) (by decide)
  unfold a_readyC
  split
  · split
    · rename_i h3
      have h2 := aI_ready h1 (at_ := 48 * to + σ.1 1 v) ht (by omega) hv hv2
      have h8 := a_ready_8 fy (a_up σ 13 (4 * (48 * to + σ.1 1 v) + fr) v) to v (48 * to + σ.1 1 v) (48 * to + σ.1 1 v)
      have h8' : (a_ready fy (a_up σ 13 (4 * (48 * to + σ.1 1 v) + fr) v) to v (48 * to + σ.1 1 v)).1 8 (48 * to + σ.1 1 v) = 0 := h8.trans h3.2
      have h4 := aI_8 h2 ht (v := v) (by rw [a_ready_5]; exact hv2)
      rw [a_ready_1] at h4
      have h90 : (a_ready fy (a_up σ 13 (4 * (48 * to + σ.1 1 v) + fr) v) to v (48 * to + σ.1 1 v)).1 9 (48 * to + σ.1 1 v) = 0 := by
        by_cases h9 : (a_ready fy (a_up σ 13 (4 * (48 * to + σ.1 1 v) + fr) v) to v (48 * to + σ.1 1 v)).1 9 (48 * to + σ.1 1 v) = 0
        · exact h9
        · have := (g2 _ hp h9).1
          omega
      exact a_gi_addL h4 ht (a_gi_8 (v := v) g2 h90) 48 (Nat.le_refl _)
    · split
      · exact g2
      · exact g1
  · exact hg
theorem aJ_gets {fy B : Nat} {σ : aS} (h : aJ fy B σ) {m : Nat} (h1 : 1 ≤ m % 80) (h2 : m % 80 ≤ σ.1 0 5) : aJ fy B (a_gets fy σ m) ∧ a_ag (m / 80 % 4) σ (a_gets fy σ m) := by
  have hp := h.1.pl (m % 80)
  have hto : m / 80 % 4 < 4 := Nat.mod_lt _ (by decide)
  have hfr : m / 320 % 4 < 4 := Nat.mod_lt _ (by decide)
  have hag : a_ag (m / 80 % 4) σ (a_gets fy σ m) := by
    unfold a_gets
    split
    · exact ag_sendC fy σ _ _ hp
    · split
      · exact ag_echoC fy σ hfr _ hp
      · exact ag_readyC fy σ hfr _ hp
  refine ⟨⟨aI_gets h.1 h1 h2, ?_, fun n hn => ?_⟩, hag⟩
  · unfold a_gets
    split
    · exact a_V_kp h.2.1 (a_sendC_kp _ _ _ _ _ _) (by decide)
    · split
      · exact a_V_echoC h.2.1 fy hfr
      · exact a_V_readyC h.2.1 fy hfr h1
  · by_cases e : n = m / 80 % 4
    · subst e
      unfold a_gets
      split
      · exact a_gi_kp (h.2.2 _ hto) (a_sendC_kp _ _ _ _ _ _) (by decide)
      · split
        · exact a_gi_kp (h.2.2 _ hto) (a_echoC_kp _ _ _ _ _ _) (by decide)
        · exact a_gi_readyC h.1 hto h1 h2 (h.2.2 _ hto)
    · exact a_gi_oth (h.2.2 n hn) h.1 hag hn e
theorem a_take_kp (σ : aS) (k : Nat) : a_kp a_S σ (a_take σ k) := a_kp_t (a_kp_u (fs := a_S) (f := 0) (by unfold a_S; decide) _ _ _) (a_kp_w (a_shW_kp k _ _) (fun f hf => by unfold a_S; omega))
theorem aJ_take {fy B : Nat} {σ : aS} (h : aJ fy B σ) {k : Nat} (hk : k < σ.1 0 12) : aJ fy B (a_take σ k) := ⟨aI_take h.1 hk, a_V_kp h.2.1 (a_take_kp σ k) (by unfold a_S; decide), fun n hn => a_gi_kp (h.2.2 n hn) (a_take_kp σ k) (by unfold a_S; decide)⟩
theorem aJ_comes {fy B : Nat} {σ : aS} (h : aJ fy B σ) (cn : Int32) {k : Nat} (hk : k < σ.1 0 12) : aJ fy B (a_comes cn fy σ k) := by
  have hw := h.1.wt k hk
  have h1 := (aJ_gets (fy := fy) (aJ_take h hk) hw.2.1 (by rw [a_take_0 _ _ _ (by decide)]; exact hw.2.2.1)).1
  unfold a_comes a_then
  split
  · exact h1
  · exact aJ_goOn h1 cn (Nat.mod_lt _ (by decide))
theorem rm_mg {S S1 : mw_S} {ix ix' jx : List Nat} {k : Nat} (h : mw_pos ix (mw_ixf jx k) = mw_pos ix' k) : (mw_rs (mw_mg S ix S1) jx).1 k = (mw_mg (mw_rs S jx) ix' S1).1 k ∧ (mw_rs (mw_mg S ix S1) jx).2 k = (mw_mg (mw_rs S jx) ix' S1).2 k := by
  unfold mw_rs mw_mg
  dsimp only
  rw [h]
  exact ⟨rfl, rfl⟩
theorem cR_mail {cn : Int32} {fy : Nat} {σ τ : aS} {S S1 : mw_S} (h : cR cn fy σ S) (hk : a_kp a_S σ τ) (h0 : ∀ j, j ≠ 12 → τ.1 0 j = σ.1 0 j) (hs : S1.1 0 0 = S.1 7 0) (hmc : S1.1 0 2 = nI (τ.1 0 12)) (hmw : ∀ k, k < τ.1 0 12 → S1.1 1 k = nI (a_cls (τ.1 5 k))) : cR cn fy τ (mw_mg S [7, 8] S1) := ⟨h.1, (show S.1 0 4 = _ from by rw [show τ.2.2 = σ.2.2 from by rw [hk.2]]; exact h.2.1), (show S.1 0 5 = _ from by rw [h0 10 (by decide)]; exact h.2.2.1), (show S.1 0 6 = _ from by rw [h0 4 (by decide)]; exact h.2.2.2.1), nR_cells (nR_cast h.2.2.2.2.1 hk h0 hs hmc hmw) (fun k hk => rm_mg ((by decide : ∀ k, k < 22 → mw_pos [7, 8] (mw_ixf [9, 10, 11, 12, 13, 14, 15, 16, 17, 18, 19, 20, 21, 22, 23, 2, 3, 4, 5, 6, 7, 8] k) = mw_pos [20, 21] k) k hk)), nR_cells (nR_cast h.2.2.2.2.2.1 hk h0 hs hmc hmw) (fun k hk => rm_mg ((by decide : ∀ k, k < 22 → mw_pos [7, 8] (mw_ixf [24, 25, 26, 27, 28, 29, 30, 31, 32, 33, 34, 35, 36, 37, 38, 2, 3, 4, 5, 6, 7, 8] k) = mw_pos [20, 21] k) k hk)), nR_cells (nR_cast h.2.2.2.2.2.2.1 hk h0 hs hmc hmw) (fun k hk => rm_mg ((by decide : ∀ k, k < 22 → mw_pos [7, 8] (mw_ixf [39, 40, 41, 42, 43, 44, 45, 46, 47, 48, 49, 50, 51, 52, 53, 2, 3, 4, 5, 6, 7, 8] k) = mw_pos [20, 21] k) k hk)), nR_cells (nR_cast h.2.2.2.2.2.2.2 hk h0 hs hmc hmw) (fun k hk => rm_mg ((by decide : ∀ k, k < 22 → mw_pos [7, 8] (mw_ixf [54, 55, 56, 57, 58, 59, 60, 61, 62, 63, 64, 65, 66, 67, 68, 2, 3, 4, 5, 6, 7, 8] k) = mw_pos [20, 21] k) k hk))⟩
theorem cR_take {cn : Int32} {fy : Nat} {σ : aS} {S S1 : mw_S} {k : Nat} (h : cR cn fy σ S) (hk : k < σ.1 0 12) (e : S1 = mw_rI (mw_uI (mw_rs S [7, 8]) 0 2 (nI (σ.1 0 12 - 1))) 1 (va_cpy ((mw_rs S [7, 8]).1 1) ((mw_rs S [7, 8]).1 1) (k + 1) k (σ.1 0 12 - 1 - k))) : cR cn fy (a_take σ k) (mw_mg S [7, 8] S1) := by
  subst e
  have em : (a_take σ k).1 0 12 = σ.1 0 12 - 1 := by
    unfold a_take
    rw [(a_shW_kp k _ _).1 0 12 (by decide), a_up_s]
  have hmw := h.2.2.2.2.1.mw
  refine cR_mail h (a_take_kp σ k) (fun j hj => a_take_0 σ k j hj) rfl (by rw [em]; rfl) (fun i hi => ?_)
  rw [em] at hi
  show va_cpy (S.1 8) (S.1 8) (k + 1) k (σ.1 0 12 - 1 - k) i = _
  unfold a_take
  rw [a_shW_5, a_up_f _ _ _ _ (by decide), a_up_f _ _ _ _ (by decide)]
  unfold va_cpy
  by_cases hc : k ≤ i ∧ i < k + (σ.1 0 12 - 1 - k)
  · rw [if_pos hc, if_pos hc, show k + 1 + (i - k) = i + 1 from by omega]
    exact hmw (i + 1) (by omega)
  · rw [if_neg hc, if_neg hc]
    exact hmw i (by omega)
theorem cls4 {m : Nat} (h : m < 3840) : a_cls m / 4 % 4 = m / 320 % 4 ∧ a_cls m / 16 % 4 = m / 80 % 4 ∧ a_cls m / 64 = m % 80 ∧ a_cls m % 4 = m / 1280 ∧ a_cls m < 2 ^ 31 := by
  have h1 : m % 80 < 80 := Nat.mod_lt _ (by decide)
  have h2 : m / 80 % 4 < 4 := Nat.mod_lt _ (by decide)
  have h3 : m / 320 % 4 < 4 := Nat.mod_lt _ (by decide)
  have h4 : m / 1280 < 3 := by omega
  unfold a_cls
  generalize m % 80 = v at *
  generalize m / 80 % 4 = t at *
  generalize m / 320 % 4 = f at *
  generalize m / 1280 = kd at *
  refine ⟨by omega, by omega, by omega, by omega, by omega⟩
theorem lk0 : Op.lookupswitch.offset (#[((0 : Int), (25 : Int)), (1, 36)] : Array (Int × Int)).toList 47 (nI 0).toInt = 25 := by decide
theorem lk1 : Op.lookupswitch.offset (#[((0 : Int), (25 : Int)), (1, 36)] : Array (Int × Int)).toList 47 (nI 1).toInt = 36 := by decide
theorem lk2 : Op.lookupswitch.offset (#[((0 : Int), (25 : Int)), (1, 36)] : Array (Int × Int)).toList 47 (nI 2).toInt = 47 := by decide
set_option maxHeartbeats 4000000 in
set_option maxRecDepth 100000 in
theorem m_Wl_arrive (l : Launch) (D : va_G) (cA : Nat → ClassId) (cn : Int32) (σ : aS) (fy B k : Nat) (S : mw_S) (h : cR cn fy σ S) (hJ : aJ fy B σ) (hB : B ≤ 2240) (hk : k < σ.1 0 12) : mw_M true l lw_tbl y_Wl_arrive b_Wl_arrive 6 none { frames := 5, cells := 0, slots := 0, locals := 123 } D vCl cA sh_Wl 69 [.inr (.inr 0), .inl (nI k)] (S) (mw_Pv (fun S' => cR cn fy (a_comes cn fy σ k) S')) := by
  refine mw_M_of (by decide) (Nat.le_of_ble_eq_true rfl) ?_
  intro p e s m args below meth c A ad C hR
  have hm := hJ.1.m
  have hw := hJ.1.wt k hk
  have hJ2 := aJ_take hJ hk
  have hv5 : σ.1 5 k % 80 ≤ (a_take σ k).1 0 5 := by rw [a_take_0 _ _ _ (by decide)]; exact hw.2.2.1
  obtain ⟨hJ3, hag⟩ := aJ_gets (fy := fy) hJ2 hw.2.1 hv5
  have hmw0 : S.1 8 k = nI (a_cls (σ.1 5 k)) := h.2.2.2.2.1.mw k hk
  obtain ⟨hsd, hrc, hsb, hkd, hcl⟩ := cls4 hw.1
  have hk3 : σ.1 5 k / 1280 < 3 := by omega
  have hfr : σ.1 5 k / 320 % 4 < 4 := Nat.mod_lt _ (by decide)
  refine mw_aload_n C 0 d_Wl_arrive_0 rfl rfl ?_
  refine mw_getr C f_Wl_34 d_Wl_arrive_1 (by decide) rfl rfl ?_
  refine mw_iload_n C 1 d_Wl_arrive_4 rfl rfl ?_
  refine mw_runi C ix_Ma_Wl rfl (mw_invV C (kk := 0) (m_Ma_take l D cA k 0 _ (σ.1 0 12) hk (by omega) h.2.2.2.2.1.mc) ix_Ma_Wl kb_Wl_198 wm_Ma_take wv_Ma_take (by decide) rfl rfl d_Wl_arrive_5 rfl rfl (Nat.le_of_ble_eq_true rfl) rfl rfl ⟨by decide, by decide⟩ ⟨Nat.zero_le _, Nat.zero_le _⟩) (fun x5 S5 e5 => ?_)
  obtain ⟨e5, e5b⟩ := e5
  have h2 := cR_take h hk e5b
  refine mw_eqi (show _ = nI (a_cls (σ.1 5 k)) from e5.trans hmw0) ?_
  generalize mw_mg S [7, 8] S5 = S2 at *
  refine mw_istore_n C 2 d_Wl_arrive_8 rfl (by decide) ?_
  refine mw_iload_n C 2 d_Wl_arrive_9 rfl rfl ?_
  refine mw_run0i C (ix0 _ _) (mw_invS C (m_Ma_senderOf l D cA (a_cls (σ.1 5 k)) hcl _) (ix0 _ _) kb_Wl_137 ws_Ma_senderOf d_Wl_arrive_10 rfl rfl (Nat.le_of_ble_eq_true rfl) rfl rfl ⟨by decide, by decide⟩ ⟨Nat.zero_le _, Nat.zero_le _⟩) (fun x10 e10 => ?_)
  subst e10
  refine mw_istore_n C 3 d_Wl_arrive_13 rfl (by decide) ?_
  refine mw_iload_n C 2 d_Wl_arrive_14 rfl rfl ?_
  refine mw_run0i C (ix0 _ _) (mw_invS C (m_Ma_subjectOf l D cA (a_cls (σ.1 5 k)) hcl _) (ix0 _ _) kb_Wl_143 ws_Ma_subjectOf d_Wl_arrive_15 rfl rfl (Nat.le_of_ble_eq_true rfl) rfl rfl ⟨by decide, by decide⟩ ⟨Nat.zero_le _, Nat.zero_le _⟩) (fun x15 e15 => ?_)
  subst e15
  refine mw_istore C d_Wl_arrive_18 (by decide) ?_
  refine mw_aload_n C 0 d_Wl_arrive_20 rfl rfl ?_
  refine mw_getr C f_Wl_38 d_Wl_arrive_21 (by decide) rfl rfl ?_
  refine mw_iload_n C 2 d_Wl_arrive_24 rfl rfl ?_
  refine mw_run0i C (ix0 _ _) (mw_invS C (m_Ma_receiverOf l D cA (a_cls (σ.1 5 k)) hcl _) (ix0 _ _) kb_Wl_140 ws_Ma_receiverOf d_Wl_arrive_25 rfl rfl (Nat.le_of_ble_eq_true rfl) rfl rfl ⟨by decide, by decide⟩ ⟨Nat.zero_le _, Nat.zero_le _⟩) (fun x25 e25 => ?_)
  subst e25
  rw [hrc, hsd, hsb]
  have hto : σ.1 5 k / 80 % 4 = 0 ∨ σ.1 5 k / 80 % 4 = 1 ∨ σ.1 5 k / 80 % 4 = 2 ∨ σ.1 5 k / 80 % 4 = 3 := by omega
  rcases hto with hto | hto | hto | hto
  ·
    rw [hto] at hag
    have E : ∀ S3 : mw_S, cR cn fy (a_gets fy (a_take σ k) (σ.1 5 k)) S3 → mw p l e { frames := 5, cells := 0, slots := 0, locals := 123 } s m args below meth c (MQ below (mw_Qc true D vCl cA ad sh_Wl 69 s.heap.size (S) (mw_Pv (fun S' => cR cn fy (a_comes cn fy σ k) S'))) args s 0 0 A) 0 0 D vCl cA A ad sh_Wl 69 6 (90) ([(5, .inr (.inr 9)), (0, .inr (.inr 0))]) ([]) (S3) := by
      intro S3 h3
      have hbe := hJ3.1.be
      refine mw_aload_n C 0 d_Wl_arrive_90 rfl rfl ?_
      refine mw_geti C f_Wl_81 d_Wl_arrive_91 (by decide) rfl rfl ?_
      refine mw_eqi h3.2.2.2.1 ?_
      refine mw_if_eqN C 102 d_Wl_arrive_94 (by decide) (by omega) (fun h94 => ?_) (fun h94 => ?_)
      ·
        refine mw_vret C hR d_Wl_arrive_102 ?_
        unfold a_comes a_then
        rw [if_pos h94]
        exact h3
      ·
        refine mw_aload C d_Wl_arrive_97 rfl ?_
        refine mw_runv C ix_No0_Wl rfl (mw_invV C (kk := 0) (m_No_goOn l D cA cn _ fy B 0 _ (h3.2.2.2.2.1) hJ3.1 (hJ3.2.2 0 (by decide)) (by decide) hB) ix_No0_Wl kb_Wl_85 wm_No_goOn wv_No_goOn (by decide) rfl rfl d_Wl_arrive_99 rfl rfl (Nat.le_of_ble_eq_true rfl) rfl rfl ⟨by decide, by decide⟩ ⟨Nat.zero_le _, Nat.zero_le _⟩) (fun S99 e99 => ?_)
        refine mw_vret C hR d_Wl_arrive_102 ?_
        unfold a_comes a_then
        rw [if_neg (by omega), hto]
        exact cR_step0 h3 hJ3 (ag_goOn hJ3.1 cn (by decide)) e99
    refine mw_eqi (show _ = nI 0 from by rw [hto]) ?_
    refine mw_aaldN C d_Wl_arrive_28 (by decide) rfl (by omega) (by decide) rfl ?_
    refine mw_astore C d_Wl_arrive_29 (by decide) ?_
    refine mw_iload_n C 2 d_Wl_arrive_31 rfl rfl ?_
    refine mw_run0i C (ix0 _ _) (mw_invS C (m_Ma_kindOf l D cA (a_cls (σ.1 5 k)) hcl _) (ix0 _ _) kb_Wl_133 ws_Ma_kindOf d_Wl_arrive_32 rfl rfl (Nat.le_of_ble_eq_true rfl) rfl rfl ⟨by decide, by decide⟩ ⟨Nat.zero_le _, Nat.zero_le _⟩) (fun x32 e32 => ?_)
    subst e32
    rw [hkd]
    have hkk : σ.1 5 k / 1280 = 0 ∨ σ.1 5 k / 1280 = 1 ∨ σ.1 5 k / 1280 = 2 := by omega
    rcases hkk with hkk | hkk | hkk
    ·
      refine mw_eqi (show _ = nI 0 from by rw [hkk]) ?_
      refine mw_lookup C 60 d_Wl_arrive_35 (by decide) lk0 (by decide) ?_
      refine mw_aload C d_Wl_arrive_60 rfl ?_
      refine mw_iload_n C 3 d_Wl_arrive_62 rfl rfl ?_
      refine mw_iload C d_Wl_arrive_63 rfl ?_
      refine mw_runv C ix_No0_Wl rfl (mw_invV C (kk := 0) (m_No_receiveSend l D cA cn _ fy B 0 (σ.1 5 k / 320 % 4) (σ.1 5 k % 80) _ (h2.2.2.2.2.1) hJ2.1 hB (by decide) hfr hv5) ix_No0_Wl kb_Wl_201 wm_No_receiveSend wv_No_receiveSend (by decide) rfl rfl d_Wl_arrive_65 rfl rfl (Nat.le_of_ble_eq_true rfl) rfl rfl ⟨by decide, by decide⟩ ⟨Nat.zero_le _, Nat.zero_le _⟩) (fun S65 e65 => ?_)
      refine mw_goto C 90 d_Wl_arrive_68 (by decide) ?_
      have eg : a_gets fy (a_take σ k) (σ.1 5 k) = a_sendC fy (a_take σ k) (σ.1 5 k / 320 % 4) 0 (σ.1 5 k % 80) (48 * 0 + (a_take σ k).1 1 (σ.1 5 k % 80)) := by
        unfold a_gets
        rw [if_pos hkk, hto]
      rw [← eg] at e65
      exact mw_to _ (by exact And.intro rfl (And.intro rfl (trivial))) (E _ (cR_step0 h2 hJ2 hag e65))
    ·
      refine mw_eqi (show _ = nI 1 from by rw [hkk]) ?_
      refine mw_lookup C 71 d_Wl_arrive_35 (by decide) lk1 (by decide) ?_
      refine mw_aload C d_Wl_arrive_71 rfl ?_
      refine mw_iload_n C 3 d_Wl_arrive_73 rfl rfl ?_
      refine mw_iload C d_Wl_arrive_74 rfl ?_
      refine mw_runv C ix_No0_Wl rfl (mw_invV C (kk := 0) (m_No_receiveEcho l D cA cn _ fy B 0 (σ.1 5 k / 320 % 4) (σ.1 5 k % 80) _ (h2.2.2.2.2.1) hJ2.1 hJ2.2.1 hB (by decide) hfr hw.2.1 hv5) ix_No0_Wl kb_Wl_205 wm_No_receiveEcho wv_No_receiveEcho (by decide) rfl rfl d_Wl_arrive_76 rfl rfl (Nat.le_of_ble_eq_true rfl) rfl rfl ⟨by decide, by decide⟩ ⟨Nat.zero_le _, Nat.zero_le _⟩) (fun S76 e76 => ?_)
      refine mw_goto C 90 d_Wl_arrive_79 (by decide) ?_
      have eg : a_gets fy (a_take σ k) (σ.1 5 k) = a_echoC fy (a_take σ k) (σ.1 5 k / 320 % 4) 0 (σ.1 5 k % 80) (48 * 0 + (a_take σ k).1 1 (σ.1 5 k % 80)) := by
        unfold a_gets
        rw [if_neg (by omega), if_pos hkk, hto]
      rw [← eg] at e76
      exact mw_to _ (by exact And.intro rfl (And.intro rfl (trivial))) (E _ (cR_step0 h2 hJ2 hag e76))
    ·
      refine mw_eqi (show _ = nI 2 from by rw [hkk]) ?_
      refine mw_lookup C 82 d_Wl_arrive_35 (by decide) lk2 (by decide) ?_
      refine mw_aload C d_Wl_arrive_82 rfl ?_
      refine mw_iload_n C 3 d_Wl_arrive_84 rfl rfl ?_
      refine mw_iload C d_Wl_arrive_85 rfl ?_
      refine mw_runv C ix_No0_Wl rfl (mw_invV C (kk := 0) (m_No_receiveReady l D cA cn _ fy B 0 (σ.1 5 k / 320 % 4) (σ.1 5 k % 80) _ (h2.2.2.2.2.1) hJ2.1 hJ2.2.1 (hJ2.2.2 0 (by decide)) hB (by decide) hfr hw.2.1 hv5) ix_No0_Wl kb_Wl_208 wm_No_receiveReady wv_No_receiveReady (by decide) rfl rfl d_Wl_arrive_87 rfl rfl (Nat.le_of_ble_eq_true rfl) rfl rfl ⟨by decide, by decide⟩ ⟨Nat.zero_le _, Nat.zero_le _⟩) (fun S87 e87 => ?_)
      have eg : a_gets fy (a_take σ k) (σ.1 5 k) = a_readyC fy (a_take σ k) (σ.1 5 k / 320 % 4) 0 (σ.1 5 k % 80) (48 * 0 + (a_take σ k).1 1 (σ.1 5 k % 80)) := by
        unfold a_gets
        rw [if_neg (by omega), if_neg (by omega), hto]
      rw [← eg] at e87
      exact mw_to _ (by exact And.intro rfl (And.intro rfl (trivial))) (E _ (cR_step0 h2 hJ2 hag e87))
  ·
    rw [hto] at hag
    have E : ∀ S3 : mw_S, cR cn fy (a_gets fy (a_take σ k) (σ.1 5 k)) S3 → mw p l e { frames := 5, cells := 0, slots := 0, locals := 123 } s m args below meth c (MQ below (mw_Qc true D vCl cA ad sh_Wl 69 s.heap.size (S) (mw_Pv (fun S' => cR cn fy (a_comes cn fy σ k) S'))) args s 0 0 A) 0 0 D vCl cA A ad sh_Wl 69 6 (90) ([(5, .inr (.inr 24)), (0, .inr (.inr 0))]) ([]) (S3) := by
      intro S3 h3
      have hbe := hJ3.1.be
      refine mw_aload_n C 0 d_Wl_arrive_90 rfl rfl ?_
      refine mw_geti C f_Wl_81 d_Wl_arrive_91 (by decide) rfl rfl ?_
      refine mw_eqi h3.2.2.2.1 ?_
      refine mw_if_eqN C 102 d_Wl_arrive_94 (by decide) (by omega) (fun h94 => ?_) (fun h94 => ?_)
      ·
        refine mw_vret C hR d_Wl_arrive_102 ?_
        unfold a_comes a_then
        rw [if_pos h94]
        exact h3
      ·
        refine mw_aload C d_Wl_arrive_97 rfl ?_
        refine mw_runv C ix_No1_Wl rfl (mw_invV C (kk := 0) (m_No_goOn l D cA cn _ fy B 1 _ (h3.2.2.2.2.2.1) hJ3.1 (hJ3.2.2 1 (by decide)) (by decide) hB) ix_No1_Wl kb_Wl_85 wm_No_goOn wv_No_goOn (by decide) rfl rfl d_Wl_arrive_99 rfl rfl (Nat.le_of_ble_eq_true rfl) rfl rfl ⟨by decide, by decide⟩ ⟨Nat.zero_le _, Nat.zero_le _⟩) (fun S99 e99 => ?_)
        refine mw_vret C hR d_Wl_arrive_102 ?_
        unfold a_comes a_then
        rw [if_neg (by omega), hto]
        exact cR_step1 h3 hJ3 (ag_goOn hJ3.1 cn (by decide)) e99
    refine mw_eqi (show _ = nI 1 from by rw [hto]) ?_
    refine mw_aaldN C d_Wl_arrive_28 (by decide) rfl (by omega) (by decide) rfl ?_
    refine mw_astore C d_Wl_arrive_29 (by decide) ?_
    refine mw_iload_n C 2 d_Wl_arrive_31 rfl rfl ?_
    refine mw_run0i C (ix0 _ _) (mw_invS C (m_Ma_kindOf l D cA (a_cls (σ.1 5 k)) hcl _) (ix0 _ _) kb_Wl_133 ws_Ma_kindOf d_Wl_arrive_32 rfl rfl (Nat.le_of_ble_eq_true rfl) rfl rfl ⟨by decide, by decide⟩ ⟨Nat.zero_le _, Nat.zero_le _⟩) (fun x32 e32 => ?_)
    subst e32
    rw [hkd]
    have hkk : σ.1 5 k / 1280 = 0 ∨ σ.1 5 k / 1280 = 1 ∨ σ.1 5 k / 1280 = 2 := by omega
    rcases hkk with hkk | hkk | hkk
    ·
      refine mw_eqi (show _ = nI 0 from by rw [hkk]) ?_
      refine mw_lookup C 60 d_Wl_arrive_35 (by decide) lk0 (by decide) ?_
      refine mw_aload C d_Wl_arrive_60 rfl ?_
      refine mw_iload_n C 3 d_Wl_arrive_62 rfl rfl ?_
      refine mw_iload C d_Wl_arrive_63 rfl ?_
      refine mw_runv C ix_No1_Wl rfl (mw_invV C (kk := 0) (m_No_receiveSend l D cA cn _ fy B 1 (σ.1 5 k / 320 % 4) (σ.1 5 k % 80) _ (h2.2.2.2.2.2.1) hJ2.1 hB (by decide) hfr hv5) ix_No1_Wl kb_Wl_201 wm_No_receiveSend wv_No_receiveSend (by decide) rfl rfl d_Wl_arrive_65 rfl rfl (Nat.le_of_ble_eq_true rfl) rfl rfl ⟨by decide, by decide⟩ ⟨Nat.zero_le _, Nat.zero_le _⟩) (fun S65 e65 => ?_)
      refine mw_goto C 90 d_Wl_arrive_68 (by decide) ?_
      have eg : a_gets fy (a_take σ k) (σ.1 5 k) = a_sendC fy (a_take σ k) (σ.1 5 k / 320 % 4) 1 (σ.1 5 k % 80) (48 * 1 + (a_take σ k).1 1 (σ.1 5 k % 80)) := by
        unfold a_gets
        rw [if_pos hkk, hto]
      rw [← eg] at e65
      exact mw_to _ (by exact And.intro rfl (And.intro rfl (trivial))) (E _ (cR_step1 h2 hJ2 hag e65))
    ·
      refine mw_eqi (show _ = nI 1 from by rw [hkk]) ?_
      refine mw_lookup C 71 d_Wl_arrive_35 (by decide) lk1 (by decide) ?_
      refine mw_aload C d_Wl_arrive_71 rfl ?_
      refine mw_iload_n C 3 d_Wl_arrive_73 rfl rfl ?_
      refine mw_iload C d_Wl_arrive_74 rfl ?_
      refine mw_runv C ix_No1_Wl rfl (mw_invV C (kk := 0) (m_No_receiveEcho l D cA cn _ fy B 1 (σ.1 5 k / 320 % 4) (σ.1 5 k % 80) _ (h2.2.2.2.2.2.1) hJ2.1 hJ2.2.1 hB (by decide) hfr hw.2.1 hv5) ix_No1_Wl kb_Wl_205 wm_No_receiveEcho wv_No_receiveEcho (by decide) rfl rfl d_Wl_arrive_76 rfl rfl (Nat.le_of_ble_eq_true rfl) rfl rfl ⟨by decide, by decide⟩ ⟨Nat.zero_le _, Nat.zero_le _⟩) (fun S76 e76 => ?_)
      refine mw_goto C 90 d_Wl_arrive_79 (by decide) ?_
      have eg : a_gets fy (a_take σ k) (σ.1 5 k) = a_echoC fy (a_take σ k) (σ.1 5 k / 320 % 4) 1 (σ.1 5 k % 80) (48 * 1 + (a_take σ k).1 1 (σ.1 5 k % 80)) := by
        unfold a_gets
        rw [if_neg (by omega), if_pos hkk, hto]
      rw [← eg] at e76
      exact mw_to _ (by exact And.intro rfl (And.intro rfl (trivial))) (E _ (cR_step1 h2 hJ2 hag e76))
    ·
      refine mw_eqi (show _ = nI 2 from by rw [hkk]) ?_
      refine mw_lookup C 82 d_Wl_arrive_35 (by decide) lk2 (by decide) ?_
      refine mw_aload C d_Wl_arrive_82 rfl ?_
      refine mw_iload_n C 3 d_Wl_arrive_84 rfl rfl ?_
      refine mw_iload C d_Wl_arrive_85 rfl ?_
      refine mw_runv C ix_No1_Wl rfl (mw_invV C (kk := 0) (m_No_receiveReady l D cA cn _ fy B 1 (σ.1 5 k / 320 % 4) (σ.1 5 k % 80) _ (h2.2.2.2.2.2.1) hJ2.1 hJ2.2.1 (hJ2.2.2 1 (by decide)) hB (by decide) hfr hw.2.1 hv5) ix_No1_Wl kb_Wl_208 wm_No_receiveReady wv_No_receiveReady (by decide) rfl rfl d_Wl_arrive_87 rfl rfl (Nat.le_of_ble_eq_true rfl) rfl rfl ⟨by decide, by decide⟩ ⟨Nat.zero_le _, Nat.zero_le _⟩) (fun S87 e87 => ?_)
      have eg : a_gets fy (a_take σ k) (σ.1 5 k) = a_readyC fy (a_take σ k) (σ.1 5 k / 320 % 4) 1 (σ.1 5 k % 80) (48 * 1 + (a_take σ k).1 1 (σ.1 5 k % 80)) := by
        unfold a_gets
        rw [if_neg (by omega), if_neg (by omega), hto]
      rw [← eg] at e87
      exact mw_to _ (by exact And.intro rfl (And.intro rfl (trivial))) (E _ (cR_step1 h2 hJ2 hag e87))
  ·
    rw [hto] at hag
    have E : ∀ S3 : mw_S, cR cn fy (a_gets fy (a_take σ k) (σ.1 5 k)) S3 → mw p l e { frames := 5, cells := 0, slots := 0, locals := 123 } s m args below meth c (MQ below (mw_Qc true D vCl cA ad sh_Wl 69 s.heap.size (S) (mw_Pv (fun S' => cR cn fy (a_comes cn fy σ k) S'))) args s 0 0 A) 0 0 D vCl cA A ad sh_Wl 69 6 (90) ([(5, .inr (.inr 39)), (0, .inr (.inr 0))]) ([]) (S3) := by
      intro S3 h3
      have hbe := hJ3.1.be
      refine mw_aload_n C 0 d_Wl_arrive_90 rfl rfl ?_
      refine mw_geti C f_Wl_81 d_Wl_arrive_91 (by decide) rfl rfl ?_
      refine mw_eqi h3.2.2.2.1 ?_
      refine mw_if_eqN C 102 d_Wl_arrive_94 (by decide) (by omega) (fun h94 => ?_) (fun h94 => ?_)
      ·
        refine mw_vret C hR d_Wl_arrive_102 ?_
        unfold a_comes a_then
        rw [if_pos h94]
        exact h3
      ·
        refine mw_aload C d_Wl_arrive_97 rfl ?_
        refine mw_runv C ix_No2_Wl rfl (mw_invV C (kk := 0) (m_No_goOn l D cA cn _ fy B 2 _ (h3.2.2.2.2.2.2.1) hJ3.1 (hJ3.2.2 2 (by decide)) (by decide) hB) ix_No2_Wl kb_Wl_85 wm_No_goOn wv_No_goOn (by decide) rfl rfl d_Wl_arrive_99 rfl rfl (Nat.le_of_ble_eq_true rfl) rfl rfl ⟨by decide, by decide⟩ ⟨Nat.zero_le _, Nat.zero_le _⟩) (fun S99 e99 => ?_)
        refine mw_vret C hR d_Wl_arrive_102 ?_
        unfold a_comes a_then
        rw [if_neg (by omega), hto]
        exact cR_step2 h3 hJ3 (ag_goOn hJ3.1 cn (by decide)) e99
    refine mw_eqi (show _ = nI 2 from by rw [hto]) ?_
    refine mw_aaldN C d_Wl_arrive_28 (by decide) rfl (by omega) (by decide) rfl ?_
    refine mw_astore C d_Wl_arrive_29 (by decide) ?_
    refine mw_iload_n C 2 d_Wl_arrive_31 rfl rfl ?_
    refine mw_run0i C (ix0 _ _) (mw_invS C (m_Ma_kindOf l D cA (a_cls (σ.1 5 k)) hcl _) (ix0 _ _) kb_Wl_133 ws_Ma_kindOf d_Wl_arrive_32 rfl rfl (Nat.le_of_ble_eq_true rfl) rfl rfl ⟨by decide, by decide⟩ ⟨Nat.zero_le _, Nat.zero_le _⟩) (fun x32 e32 => ?_)
    subst e32
    rw [hkd]
    have hkk : σ.1 5 k / 1280 = 0 ∨ σ.1 5 k / 1280 = 1 ∨ σ.1 5 k / 1280 = 2 := by omega
    rcases hkk with hkk | hkk | hkk
    ·
      refine mw_eqi (show _ = nI 0 from by rw [hkk]) ?_
      refine mw_lookup C 60 d_Wl_arrive_35 (by decide) lk0 (by decide) ?_
      refine mw_aload C d_Wl_arrive_60 rfl ?_
      refine mw_iload_n C 3 d_Wl_arrive_62 rfl rfl ?_
      refine mw_iload C d_Wl_arrive_63 rfl ?_
      refine mw_runv C ix_No2_Wl rfl (mw_invV C (kk := 0) (m_No_receiveSend l D cA cn _ fy B 2 (σ.1 5 k / 320 % 4) (σ.1 5 k % 80) _ (h2.2.2.2.2.2.2.1) hJ2.1 hB (by decide) hfr hv5) ix_No2_Wl kb_Wl_201 wm_No_receiveSend wv_No_receiveSend (by decide) rfl rfl d_Wl_arrive_65 rfl rfl (Nat.le_of_ble_eq_true rfl) rfl rfl ⟨by decide, by decide⟩ ⟨Nat.zero_le _, Nat.zero_le _⟩) (fun S65 e65 => ?_)
      refine mw_goto C 90 d_Wl_arrive_68 (by decide) ?_
      have eg : a_gets fy (a_take σ k) (σ.1 5 k) = a_sendC fy (a_take σ k) (σ.1 5 k / 320 % 4) 2 (σ.1 5 k % 80) (48 * 2 + (a_take σ k).1 1 (σ.1 5 k % 80)) := by
        unfold a_gets
        rw [if_pos hkk, hto]
      rw [← eg] at e65
      exact mw_to _ (by exact And.intro rfl (And.intro rfl (trivial))) (E _ (cR_step2 h2 hJ2 hag e65))
    ·
      refine mw_eqi (show _ = nI 1 from by rw [hkk]) ?_
      refine mw_lookup C 71 d_Wl_arrive_35 (by decide) lk1 (by decide) ?_
      refine mw_aload C d_Wl_arrive_71 rfl ?_
      refine mw_iload_n C 3 d_Wl_arrive_73 rfl rfl ?_
      refine mw_iload C d_Wl_arrive_74 rfl ?_
      refine mw_runv C ix_No2_Wl rfl (mw_invV C (kk := 0) (m_No_receiveEcho l D cA cn _ fy B 2 (σ.1 5 k / 320 % 4) (σ.1 5 k % 80) _ (h2.2.2.2.2.2.2.1) hJ2.1 hJ2.2.1 hB (by decide) hfr hw.2.1 hv5) ix_No2_Wl kb_Wl_205 wm_No_receiveEcho wv_No_receiveEcho (by decide) rfl rfl d_Wl_arrive_76 rfl rfl (Nat.le_of_ble_eq_true rfl) rfl rfl ⟨by decide, by decide⟩ ⟨Nat.zero_le _, Nat.zero_le _⟩) (fun S76 e76 => ?_)
      refine mw_goto C 90 d_Wl_arrive_79 (by decide) ?_
      have eg : a_gets fy (a_take σ k) (σ.1 5 k) = a_echoC fy (a_take σ k) (σ.1 5 k / 320 % 4) 2 (σ.1 5 k % 80) (48 * 2 + (a_take σ k).1 1 (σ.1 5 k % 80)) := by
        unfold a_gets
        rw [if_neg (by omega), if_pos hkk, hto]
      rw [← eg] at e76
      exact mw_to _ (by exact And.intro rfl (And.intro rfl (trivial))) (E _ (cR_step2 h2 hJ2 hag e76))
    ·
      refine mw_eqi (show _ = nI 2 from by rw [hkk]) ?_
      refine mw_lookup C 82 d_Wl_arrive_35 (by decide) lk2 (by decide) ?_
      refine mw_aload C d_Wl_arrive_82 rfl ?_
      refine mw_iload_n C 3 d_Wl_arrive_84 rfl rfl ?_
      refine mw_iload C d_Wl_arrive_85 rfl ?_
      refine mw_runv C ix_No2_Wl rfl (mw_invV C (kk := 0) (m_No_receiveReady l D cA cn _ fy B 2 (σ.1 5 k / 320 % 4) (σ.1 5 k % 80) _ (h2.2.2.2.2.2.2.1) hJ2.1 hJ2.2.1 (hJ2.2.2 2 (by decide)) hB (by decide) hfr hw.2.1 hv5) ix_No2_Wl kb_Wl_208 wm_No_receiveReady wv_No_receiveReady (by decide) rfl rfl d_Wl_arrive_87 rfl rfl (Nat.le_of_ble_eq_true rfl) rfl rfl ⟨by decide, by decide⟩ ⟨Nat.zero_le _, Nat.zero_le _⟩) (fun S87 e87 => ?_)
      have eg : a_gets fy (a_take σ k) (σ.1 5 k) = a_readyC fy (a_take σ k) (σ.1 5 k / 320 % 4) 2 (σ.1 5 k % 80) (48 * 2 + (a_take σ k).1 1 (σ.1 5 k % 80)) := by
        unfold a_gets
        rw [if_neg (by omega), if_neg (by omega), hto]
      rw [← eg] at e87
      exact mw_to _ (by exact And.intro rfl (And.intro rfl (trivial))) (E _ (cR_step2 h2 hJ2 hag e87))
  ·
    rw [hto] at hag
    have E : ∀ S3 : mw_S, cR cn fy (a_gets fy (a_take σ k) (σ.1 5 k)) S3 → mw p l e { frames := 5, cells := 0, slots := 0, locals := 123 } s m args below meth c (MQ below (mw_Qc true D vCl cA ad sh_Wl 69 s.heap.size (S) (mw_Pv (fun S' => cR cn fy (a_comes cn fy σ k) S'))) args s 0 0 A) 0 0 D vCl cA A ad sh_Wl 69 6 (90) ([(5, .inr (.inr 54)), (0, .inr (.inr 0))]) ([]) (S3) := by
      intro S3 h3
      have hbe := hJ3.1.be
      refine mw_aload_n C 0 d_Wl_arrive_90 rfl rfl ?_
      refine mw_geti C f_Wl_81 d_Wl_arrive_91 (by decide) rfl rfl ?_
      refine mw_eqi h3.2.2.2.1 ?_
      refine mw_if_eqN C 102 d_Wl_arrive_94 (by decide) (by omega) (fun h94 => ?_) (fun h94 => ?_)
      ·
        refine mw_vret C hR d_Wl_arrive_102 ?_
        unfold a_comes a_then
        rw [if_pos h94]
        exact h3
      ·
        refine mw_aload C d_Wl_arrive_97 rfl ?_
        refine mw_runv C ix_No3_Wl rfl (mw_invV C (kk := 0) (m_No_goOn l D cA cn _ fy B 3 _ (h3.2.2.2.2.2.2.2) hJ3.1 (hJ3.2.2 3 (by decide)) (by decide) hB) ix_No3_Wl kb_Wl_85 wm_No_goOn wv_No_goOn (by decide) rfl rfl d_Wl_arrive_99 rfl rfl (Nat.le_of_ble_eq_true rfl) rfl rfl ⟨by decide, by decide⟩ ⟨Nat.zero_le _, Nat.zero_le _⟩) (fun S99 e99 => ?_)
        refine mw_vret C hR d_Wl_arrive_102 ?_
        unfold a_comes a_then
        rw [if_neg (by omega), hto]
        exact cR_step3 h3 hJ3 (ag_goOn hJ3.1 cn (by decide)) e99
    refine mw_eqi (show _ = nI 3 from by rw [hto]) ?_
    refine mw_aaldN C d_Wl_arrive_28 (by decide) rfl (by omega) (by decide) rfl ?_
    refine mw_astore C d_Wl_arrive_29 (by decide) ?_
    refine mw_iload_n C 2 d_Wl_arrive_31 rfl rfl ?_
    refine mw_run0i C (ix0 _ _) (mw_invS C (m_Ma_kindOf l D cA (a_cls (σ.1 5 k)) hcl _) (ix0 _ _) kb_Wl_133 ws_Ma_kindOf d_Wl_arrive_32 rfl rfl (Nat.le_of_ble_eq_true rfl) rfl rfl ⟨by decide, by decide⟩ ⟨Nat.zero_le _, Nat.zero_le _⟩) (fun x32 e32 => ?_)
    subst e32
    rw [hkd]
    have hkk : σ.1 5 k / 1280 = 0 ∨ σ.1 5 k / 1280 = 1 ∨ σ.1 5 k / 1280 = 2 := by omega
    rcases hkk with hkk | hkk | hkk
    ·
      refine mw_eqi (show _ = nI 0 from by rw [hkk]) ?_
      refine mw_lookup C 60 d_Wl_arrive_35 (by decide) lk0 (by decide) ?_
      refine mw_aload C d_Wl_arrive_60 rfl ?_
      refine mw_iload_n C 3 d_Wl_arrive_62 rfl rfl ?_
      refine mw_iload C d_Wl_arrive_63 rfl ?_
      refine mw_runv C ix_No3_Wl rfl (mw_invV C (kk := 0) (m_No_receiveSend l D cA cn _ fy B 3 (σ.1 5 k / 320 % 4) (σ.1 5 k % 80) _ (h2.2.2.2.2.2.2.2) hJ2.1 hB (by decide) hfr hv5) ix_No3_Wl kb_Wl_201 wm_No_receiveSend wv_No_receiveSend (by decide) rfl rfl d_Wl_arrive_65 rfl rfl (Nat.le_of_ble_eq_true rfl) rfl rfl ⟨by decide, by decide⟩ ⟨Nat.zero_le _, Nat.zero_le _⟩) (fun S65 e65 => ?_)
      refine mw_goto C 90 d_Wl_arrive_68 (by decide) ?_
      have eg : a_gets fy (a_take σ k) (σ.1 5 k) = a_sendC fy (a_take σ k) (σ.1 5 k / 320 % 4) 3 (σ.1 5 k % 80) (48 * 3 + (a_take σ k).1 1 (σ.1 5 k % 80)) := by
        unfold a_gets
        rw [if_pos hkk, hto]
      rw [← eg] at e65
      exact mw_to _ (by exact And.intro rfl (And.intro rfl (trivial))) (E _ (cR_step3 h2 hJ2 hag e65))
    ·
      refine mw_eqi (show _ = nI 1 from by rw [hkk]) ?_
      refine mw_lookup C 71 d_Wl_arrive_35 (by decide) lk1 (by decide) ?_
      refine mw_aload C d_Wl_arrive_71 rfl ?_
      refine mw_iload_n C 3 d_Wl_arrive_73 rfl rfl ?_
      refine mw_iload C d_Wl_arrive_74 rfl ?_
      refine mw_runv C ix_No3_Wl rfl (mw_invV C (kk := 0) (m_No_receiveEcho l D cA cn _ fy B 3 (σ.1 5 k / 320 % 4) (σ.1 5 k % 80) _ (h2.2.2.2.2.2.2.2) hJ2.1 hJ2.2.1 hB (by decide) hfr hw.2.1 hv5) ix_No3_Wl kb_Wl_205 wm_No_receiveEcho wv_No_receiveEcho (by decide) rfl rfl d_Wl_arrive_76 rfl rfl (Nat.le_of_ble_eq_true rfl) rfl rfl ⟨by decide, by decide⟩ ⟨Nat.zero_le _, Nat.zero_le _⟩) (fun S76 e76 => ?_)
      refine mw_goto C 90 d_Wl_arrive_79 (by decide) ?_
      have eg : a_gets fy (a_take σ k) (σ.1 5 k) = a_echoC fy (a_take σ k) (σ.1 5 k / 320 % 4) 3 (σ.1 5 k % 80) (48 * 3 + (a_take σ k).1 1 (σ.1 5 k % 80)) := by
        unfold a_gets
        rw [if_neg (by omega), if_pos hkk, hto]
      rw [← eg] at e76
      exact mw_to _ (by exact And.intro rfl (And.intro rfl (trivial))) (E _ (cR_step3 h2 hJ2 hag e76))
    ·
      refine mw_eqi (show _ = nI 2 from by rw [hkk]) ?_
      refine mw_lookup C 82 d_Wl_arrive_35 (by decide) lk2 (by decide) ?_
      refine mw_aload C d_Wl_arrive_82 rfl ?_
      refine mw_iload_n C 3 d_Wl_arrive_84 rfl rfl ?_
      refine mw_iload C d_Wl_arrive_85 rfl ?_
      refine mw_runv C ix_No3_Wl rfl (mw_invV C (kk := 0) (m_No_receiveReady l D cA cn _ fy B 3 (σ.1 5 k / 320 % 4) (σ.1 5 k % 80) _ (h2.2.2.2.2.2.2.2) hJ2.1 hJ2.2.1 (hJ2.2.2 3 (by decide)) hB (by decide) hfr hw.2.1 hv5) ix_No3_Wl kb_Wl_208 wm_No_receiveReady wv_No_receiveReady (by decide) rfl rfl d_Wl_arrive_87 rfl rfl (Nat.le_of_ble_eq_true rfl) rfl rfl ⟨by decide, by decide⟩ ⟨Nat.zero_le _, Nat.zero_le _⟩) (fun S87 e87 => ?_)
      have eg : a_gets fy (a_take σ k) (σ.1 5 k) = a_readyC fy (a_take σ k) (σ.1 5 k / 320 % 4) 3 (σ.1 5 k % 80) (48 * 3 + (a_take σ k).1 1 (σ.1 5 k % 80)) := by
        unfold a_gets
        rw [if_neg (by omega), if_neg (by omega), hto]
      rw [← eg] at e87
      exact mw_to _ (by exact And.intro rfl (And.intro rfl (trivial))) (E _ (cR_step3 h2 hJ2 hag e87))
