/-! the ledger's calls: transfers, forged vertices, whispers -/
theorem ag_queue (i : Nat) (σ : aS) (t : Nat) (hq : σ.1 20 i < 12) : a_ag i σ (a_queue σ i t) := ag_t (ag_up σ _ (by decide) (Or.inr (Or.inr (by unfold a_nd; simp; omega)))) (ag_up _ _ (by decide) (Or.inr (Or.inr rfl)))
theorem a_queue_kp (σ : aS) (i t : Nat) : a_kp (fun f => f = 19 ∨ f = 20) σ (a_queue σ i t) := a_kp_t (a_kp_u (fs := fun f => f = 19 ∨ f = 20) (f := 19) (by decide) _ _ _) (a_kp_u (fs := fun f => f = 19 ∨ f = 20) (f := 20) (by decide) _ _ _)
theorem aJ_queue {fy B : Nat} {σ : aS} (h : aJ fy B σ) {node t : Nat} (ht : a_tok t) (hq : σ.1 20 node < 12) : aJ fy B (a_queue σ node t) := ⟨aI_queue h.1 ht hq, a_V_kp h.2.1 (a_queue_kp σ node t) (by decide), fun n hn => a_gi_kp (h.2.2 n hn) (a_queue_kp σ node t) (by decide)⟩
theorem nR_queue {cn : Int32} {fy node : Nat} {σ : aS} {S S1 : mw_S} {t : Nat} (h : nR cn fy node σ S) (e0 : S1.1 0 1 = nI (σ.1 20 node + 1)) (e1 : S1.1 1 = upd (S.1 9) (σ.1 20 node) (nI t)) : nR cn fy node (a_queue σ node t) (mw_mg S [8, 9] S1) := by
  have e20 : (a_queue σ node t).1 20 node = σ.1 20 node + 1 := by unfold a_queue; rw [a_up_s]
  refine nR_q h (a_queue_kp σ node t) (by rw [e20]; exact e0) (fun i hi => ?_)
  rw [e20] at hi
  rw [e1]
  unfold a_queue upd
  rw [a_up_f _ _ _ _ (by decide), a_up_at]
  by_cases e : i = σ.1 20 node
  · rw [if_pos e, if_pos ⟨rfl, by omega⟩]
  · rw [if_neg e, if_neg (fun hh => by omega)]
    exact h.qu i (by omega)
theorem rs_same (S : mw_S) {ix jx : List Nat} {k : Nat} (h : mw_ixf jx k = mw_ixf ix k) : (mw_rs S jx).1 k = (mw_rs S ix).1 k ∧ (mw_rs S jx).2 k = (mw_rs S ix).2 k := by
  unfold mw_rs
  dsimp only
  rw [h]
  exact ⟨rfl, rfl⟩
theorem cR_queue0 {cn : Int32} {fy B : Nat} {σ : aS} {S S1 : mw_S} {t : Nat} (h : cR cn fy σ S) (hJ : aJ fy B σ) (hq : σ.1 20 0 < 12) (e : S1 = mw_uI (mw_uI (mw_rs S [17, 18]) 1 (σ.1 20 0) (nI t)) 0 1 (nI (σ.1 20 0 + 1))) : cR cn fy (a_queue σ 0 t) (mw_mg S [17, 18] S1) := by
  have ha := ag_queue 0 σ t hq
  have hN : nR cn fy 0 (a_queue σ 0 t) (mw_rs (mw_mg S [17, 18] S1) [9, 10, 11, 12, 13, 14, 15, 16, 17, 18, 19, 20, 21, 22, 23, 2, 3, 4, 5, 6, 7, 8]) := nR_cells (nR_queue (S1 := S1) h.2.2.2.2.1 (by rw [e]; rfl) (by rw [e]; rfl)) (fun k hk => rm_mg ((by decide : ∀ k, k < 22 → mw_pos [17, 18] (mw_ixf [9, 10, 11, 12, 13, 14, 15, 16, 17, 18, 19, 20, 21, 22, 23, 2, 3, 4, 5, 6, 7, 8] k) = mw_pos [8, 9] k) k hk))
  exact ⟨h.1, h.2.1, h.2.2.1, h.2.2.2.1, hN, nR_oth h.2.2.2.2.2.1 hJ.1 (hJ.2.2 1 (by decide)) (by decide) (by decide) ha hN (fun k hk => rm_none ((by decide : ∀ k, k < 15 → mw_pos [17, 18] (mw_ixf [24, 25, 26, 27, 28, 29, 30, 31, 32, 33, 34, 35, 36, 37, 38, 2, 3, 4, 5, 6, 7, 8] k) = none) k hk)) (fun k h1 h2 => rs_same (mw_mg S [17, 18] S1) ((by decide : ∀ k, k < 22 → 15 ≤ k → mw_ixf [24, 25, 26, 27, 28, 29, 30, 31, 32, 33, 34, 35, 36, 37, 38, 2, 3, 4, 5, 6, 7, 8] k = mw_ixf [9, 10, 11, 12, 13, 14, 15, 16, 17, 18, 19, 20, 21, 22, 23, 2, 3, 4, 5, 6, 7, 8] k) k h2 h1)), nR_oth h.2.2.2.2.2.2.1 hJ.1 (hJ.2.2 2 (by decide)) (by decide) (by decide) ha hN (fun k hk => rm_none ((by decide : ∀ k, k < 15 → mw_pos [17, 18] (mw_ixf [39, 40, 41, 42, 43, 44, 45, 46, 47, 48, 49, 50, 51, 52, 53, 2, 3, 4, 5, 6, 7, 8] k) = none) k hk)) (fun k h1 h2 => rs_same (mw_mg S [17, 18] S1) ((by decide : ∀ k, k < 22 → 15 ≤ k → mw_ixf [39, 40, 41, 42, 43, 44, 45, 46, 47, 48, 49, 50, 51, 52, 53, 2, 3, 4, 5, 6, 7, 8] k = mw_ixf [9, 10, 11, 12, 13, 14, 15, 16, 17, 18, 19, 20, 21, 22, 23, 2, 3, 4, 5, 6, 7, 8] k) k h2 h1)), nR_oth h.2.2.2.2.2.2.2 hJ.1 (hJ.2.2 3 (by decide)) (by decide) (by decide) ha hN (fun k hk => rm_none ((by decide : ∀ k, k < 15 → mw_pos [17, 18] (mw_ixf [54, 55, 56, 57, 58, 59, 60, 61, 62, 63, 64, 65, 66, 67, 68, 2, 3, 4, 5, 6, 7, 8] k) = none) k hk)) (fun k h1 h2 => rs_same (mw_mg S [17, 18] S1) ((by decide : ∀ k, k < 22 → 15 ≤ k → mw_ixf [54, 55, 56, 57, 58, 59, 60, 61, 62, 63, 64, 65, 66, 67, 68, 2, 3, 4, 5, 6, 7, 8] k = mw_ixf [9, 10, 11, 12, 13, 14, 15, 16, 17, 18, 19, 20, 21, 22, 23, 2, 3, 4, 5, 6, 7, 8] k) k h2 h1))⟩
theorem cR_queue1 {cn : Int32} {fy B : Nat} {σ : aS} {S S1 : mw_S} {t : Nat} (h : cR cn fy σ S) (hJ : aJ fy B σ) (hq : σ.1 20 1 < 12) (e : S1 = mw_uI (mw_uI (mw_rs S [32, 33]) 1 (σ.1 20 1) (nI t)) 0 1 (nI (σ.1 20 1 + 1))) : cR cn fy (a_queue σ 1 t) (mw_mg S [32, 33] S1) := by
  have ha := ag_queue 1 σ t hq
  have hN : nR cn fy 1 (a_queue σ 1 t) (mw_rs (mw_mg S [32, 33] S1) [24, 25, 26, 27, 28, 29, 30, 31, 32, 33, 34, 35, 36, 37, 38, 2, 3, 4, 5, 6, 7, 8]) := nR_cells (nR_queue (S1 := S1) h.2.2.2.2.2.1 (by rw [e]; rfl) (by rw [e]; rfl)) (fun k hk => rm_mg ((by decide : ∀ k, k < 22 → mw_pos [32, 33] (mw_ixf [24, 25, 26, 27, 28, 29, 30, 31, 32, 33, 34, 35, 36, 37, 38, 2, 3, 4, 5, 6, 7, 8] k) = mw_pos [8, 9] k) k hk))
  exact ⟨h.1, h.2.1, h.2.2.1, h.2.2.2.1, nR_oth h.2.2.2.2.1 hJ.1 (hJ.2.2 0 (by decide)) (by decide) (by decide) ha hN (fun k hk => rm_none ((by decide : ∀ k, k < 15 → mw_pos [32, 33] (mw_ixf [9, 10, 11, 12, 13, 14, 15, 16, 17, 18, 19, 20, 21, 22, 23, 2, 3, 4, 5, 6, 7, 8] k) = none) k hk)) (fun k h1 h2 => rs_same (mw_mg S [32, 33] S1) ((by decide : ∀ k, k < 22 → 15 ≤ k → mw_ixf [9, 10, 11, 12, 13, 14, 15, 16, 17, 18, 19, 20, 21, 22, 23, 2, 3, 4, 5, 6, 7, 8] k = mw_ixf [24, 25, 26, 27, 28, 29, 30, 31, 32, 33, 34, 35, 36, 37, 38, 2, 3, 4, 5, 6, 7, 8] k) k h2 h1)), hN, nR_oth h.2.2.2.2.2.2.1 hJ.1 (hJ.2.2 2 (by decide)) (by decide) (by decide) ha hN (fun k hk => rm_none ((by decide : ∀ k, k < 15 → mw_pos [32, 33] (mw_ixf [39, 40, 41, 42, 43, 44, 45, 46, 47, 48, 49, 50, 51, 52, 53, 2, 3, 4, 5, 6, 7, 8] k) = none) k hk)) (fun k h1 h2 => rs_same (mw_mg S [32, 33] S1) ((by decide : ∀ k, k < 22 → 15 ≤ k → mw_ixf [39, 40, 41, 42, 43, 44, 45, 46, 47, 48, 49, 50, 51, 52, 53, 2, 3, 4, 5, 6, 7, 8] k = mw_ixf [24, 25, 26, 27, 28, 29, 30, 31, 32, 33, 34, 35, 36, 37, 38, 2, 3, 4, 5, 6, 7, 8] k) k h2 h1)), nR_oth h.2.2.2.2.2.2.2 hJ.1 (hJ.2.2 3 (by decide)) (by decide) (by decide) ha hN (fun k hk => rm_none ((by decide : ∀ k, k < 15 → mw_pos [32, 33] (mw_ixf [54, 55, 56, 57, 58, 59, 60, 61, 62, 63, 64, 65, 66, 67, 68, 2, 3, 4, 5, 6, 7, 8] k) = none) k hk)) (fun k h1 h2 => rs_same (mw_mg S [32, 33] S1) ((by decide : ∀ k, k < 22 → 15 ≤ k → mw_ixf [54, 55, 56, 57, 58, 59, 60, 61, 62, 63, 64, 65, 66, 67, 68, 2, 3, 4, 5, 6, 7, 8] k = mw_ixf [24, 25, 26, 27, 28, 29, 30, 31, 32, 33, 34, 35, 36, 37, 38, 2, 3, 4, 5, 6, 7, 8] k) k h2 h1))⟩
theorem cR_queue2 {cn : Int32} {fy B : Nat} {σ : aS} {S S1 : mw_S} {t : Nat} (h : cR cn fy σ S) (hJ : aJ fy B σ) (hq : σ.1 20 2 < 12) (e : S1 = mw_uI (mw_uI (mw_rs S [47, 48]) 1 (σ.1 20 2) (nI t)) 0 1 (nI (σ.1 20 2 + 1))) : cR cn fy (a_queue σ 2 t) (mw_mg S [47, 48] S1) := by
  have ha := ag_queue 2 σ t hq
  have hN : nR cn fy 2 (a_queue σ 2 t) (mw_rs (mw_mg S [47, 48] S1) [39, 40, 41, 42, 43, 44, 45, 46, 47, 48, 49, 50, 51, 52, 53, 2, 3, 4, 5, 6, 7, 8]) := nR_cells (nR_queue (S1 := S1) h.2.2.2.2.2.2.1 (by rw [e]; rfl) (by rw [e]; rfl)) (fun k hk => rm_mg ((by decide : ∀ k, k < 22 → mw_pos [47, 48] (mw_ixf [39, 40, 41, 42, 43, 44, 45, 46, 47, 48, 49, 50, 51, 52, 53, 2, 3, 4, 5, 6, 7, 8] k) = mw_pos [8, 9] k) k hk))
  exact ⟨h.1, h.2.1, h.2.2.1, h.2.2.2.1, nR_oth h.2.2.2.2.1 hJ.1 (hJ.2.2 0 (by decide)) (by decide) (by decide) ha hN (fun k hk => rm_none ((by decide : ∀ k, k < 15 → mw_pos [47, 48] (mw_ixf [9, 10, 11, 12, 13, 14, 15, 16, 17, 18, 19, 20, 21, 22, 23, 2, 3, 4, 5, 6, 7, 8] k) = none) k hk)) (fun k h1 h2 => rs_same (mw_mg S [47, 48] S1) ((by decide : ∀ k, k < 22 → 15 ≤ k → mw_ixf [9, 10, 11, 12, 13, 14, 15, 16, 17, 18, 19, 20, 21, 22, 23, 2, 3, 4, 5, 6, 7, 8] k = mw_ixf [39, 40, 41, 42, 43, 44, 45, 46, 47, 48, 49, 50, 51, 52, 53, 2, 3, 4, 5, 6, 7, 8] k) k h2 h1)), nR_oth h.2.2.2.2.2.1 hJ.1 (hJ.2.2 1 (by decide)) (by decide) (by decide) ha hN (fun k hk => rm_none ((by decide : ∀ k, k < 15 → mw_pos [47, 48] (mw_ixf [24, 25, 26, 27, 28, 29, 30, 31, 32, 33, 34, 35, 36, 37, 38, 2, 3, 4, 5, 6, 7, 8] k) = none) k hk)) (fun k h1 h2 => rs_same (mw_mg S [47, 48] S1) ((by decide : ∀ k, k < 22 → 15 ≤ k → mw_ixf [24, 25, 26, 27, 28, 29, 30, 31, 32, 33, 34, 35, 36, 37, 38, 2, 3, 4, 5, 6, 7, 8] k = mw_ixf [39, 40, 41, 42, 43, 44, 45, 46, 47, 48, 49, 50, 51, 52, 53, 2, 3, 4, 5, 6, 7, 8] k) k h2 h1)), hN, nR_oth h.2.2.2.2.2.2.2 hJ.1 (hJ.2.2 3 (by decide)) (by decide) (by decide) ha hN (fun k hk => rm_none ((by decide : ∀ k, k < 15 → mw_pos [47, 48] (mw_ixf [54, 55, 56, 57, 58, 59, 60, 61, 62, 63, 64, 65, 66, 67, 68, 2, 3, 4, 5, 6, 7, 8] k) = none) k hk)) (fun k h1 h2 => rs_same (mw_mg S [47, 48] S1) ((by decide : ∀ k, k < 22 → 15 ≤ k → mw_ixf [54, 55, 56, 57, 58, 59, 60, 61, 62, 63, 64, 65, 66, 67, 68, 2, 3, 4, 5, 6, 7, 8] k = mw_ixf [39, 40, 41, 42, 43, 44, 45, 46, 47, 48, 49, 50, 51, 52, 53, 2, 3, 4, 5, 6, 7, 8] k) k h2 h1))⟩
theorem cR_queue3 {cn : Int32} {fy B : Nat} {σ : aS} {S S1 : mw_S} {t : Nat} (h : cR cn fy σ S) (hJ : aJ fy B σ) (hq : σ.1 20 3 < 12) (e : S1 = mw_uI (mw_uI (mw_rs S [62, 63]) 1 (σ.1 20 3) (nI t)) 0 1 (nI (σ.1 20 3 + 1))) : cR cn fy (a_queue σ 3 t) (mw_mg S [62, 63] S1) := by
  have ha := ag_queue 3 σ t hq
  have hN : nR cn fy 3 (a_queue σ 3 t) (mw_rs (mw_mg S [62, 63] S1) [54, 55, 56, 57, 58, 59, 60, 61, 62, 63, 64, 65, 66, 67, 68, 2, 3, 4, 5, 6, 7, 8]) := nR_cells (nR_queue (S1 := S1) h.2.2.2.2.2.2.2 (by rw [e]; rfl) (by rw [e]; rfl)) (fun k hk => rm_mg ((by decide : ∀ k, k < 22 → mw_pos [62, 63] (mw_ixf [54, 55, 56, 57, 58, 59, 60, 61, 62, 63, 64, 65, 66, 67, 68, 2, 3, 4, 5, 6, 7, 8] k) = mw_pos [8, 9] k) k hk))
  exact ⟨h.1, h.2.1, h.2.2.1, h.2.2.2.1, nR_oth h.2.2.2.2.1 hJ.1 (hJ.2.2 0 (by decide)) (by decide) (by decide) ha hN (fun k hk => rm_none ((by decide : ∀ k, k < 15 → mw_pos [62, 63] (mw_ixf [9, 10, 11, 12, 13, 14, 15, 16, 17, 18, 19, 20, 21, 22, 23, 2, 3, 4, 5, 6, 7, 8] k) = none) k hk)) (fun k h1 h2 => rs_same (mw_mg S [62, 63] S1) ((by decide : ∀ k, k < 22 → 15 ≤ k → mw_ixf [9, 10, 11, 12, 13, 14, 15, 16, 17, 18, 19, 20, 21, 22, 23, 2, 3, 4, 5, 6, 7, 8] k = mw_ixf [54, 55, 56, 57, 58, 59, 60, 61, 62, 63, 64, 65, 66, 67, 68, 2, 3, 4, 5, 6, 7, 8] k) k h2 h1)), nR_oth h.2.2.2.2.2.1 hJ.1 (hJ.2.2 1 (by decide)) (by decide) (by decide) ha hN (fun k hk => rm_none ((by decide : ∀ k, k < 15 → mw_pos [62, 63] (mw_ixf [24, 25, 26, 27, 28, 29, 30, 31, 32, 33, 34, 35, 36, 37, 38, 2, 3, 4, 5, 6, 7, 8] k) = none) k hk)) (fun k h1 h2 => rs_same (mw_mg S [62, 63] S1) ((by decide : ∀ k, k < 22 → 15 ≤ k → mw_ixf [24, 25, 26, 27, 28, 29, 30, 31, 32, 33, 34, 35, 36, 37, 38, 2, 3, 4, 5, 6, 7, 8] k = mw_ixf [54, 55, 56, 57, 58, 59, 60, 61, 62, 63, 64, 65, 66, 67, 68, 2, 3, 4, 5, 6, 7, 8] k) k h2 h1)), nR_oth h.2.2.2.2.2.2.1 hJ.1 (hJ.2.2 2 (by decide)) (by decide) (by decide) ha hN (fun k hk => rm_none ((by decide : ∀ k, k < 15 → mw_pos [62, 63] (mw_ixf [39, 40, 41, 42, 43, 44, 45, 46, 47, 48, 49, 50, 51, 52, 53, 2, 3, 4, 5, 6, 7, 8] k) = none) k hk)) (fun k h1 h2 => rs_same (mw_mg S [62, 63] S1) ((by decide : ∀ k, k < 22 → 15 ≤ k → mw_ixf [39, 40, 41, 42, 43, 44, 45, 46, 47, 48, 49, 50, 51, 52, 53, 2, 3, 4, 5, 6, 7, 8] k = mw_ixf [54, 55, 56, 57, 58, 59, 60, 61, 62, 63, 64, 65, 66, 67, 68, 2, 3, 4, 5, 6, 7, 8] k) k h2 h1)), hN⟩
set_option maxHeartbeats 4000000 in
set_option maxRecDepth 100000 in
theorem m_Wl_transfer_0 (l : Launch) (D : va_G) (cA : Nat → ClassId) (cn : Int32) (σ : aS) (fy B k1 k2 k3 k4 : Nat) (S : mw_S) (h : cR cn fy σ S) (hJ : aJ fy B σ) (hk : k1 < 4) (he : ¬ k1 = fy) (hk2 : k2 < 4) (hk3 : k3 < 4) (hk4 : 1 ≤ k4) (hk5 : k4 ≤ 99) (hq : σ.1 20 k1 < 12) : mw_M true l lw_tbl y_Wl_transfer b_Wl_transfer 6 (some .int) { frames := 2, cells := 0, slots := 0, locals := 41 } D vCl cA sh_Wl 69 [.inr (.inr 0), .inl (nI k1), .inl (nI k2), .inl (nI k3), .inl (nI k4)] (S) (mw_Pi (fun z S' => z = nI (σ.1 20 k1 + 1) ∧ cR cn fy (a_queue σ k1 (1000 * k4 + 10 * k2 + k3)) S')) := by
  refine mw_M_of (by decide) (Nat.le_of_ble_eq_true rfl) ?_
  intro p e s m args below meth c A ad C hR
  refine mw_aload_n C 0 d_Wl_transfer_0 rfl rfl ?_
  refine mw_iload_n C 1 d_Wl_transfer_1 rfl rfl ?_
  refine mw_run0i C ix_Wl_Wl (mw_invV C (kk := 0) (m_Wl_isActive l D cA (nI k1) _) ix_Wl_Wl kb_Wl_45 wm_Wl_isActive wv_Wl_isActive (by decide) rfl rfl d_Wl_transfer_2 rfl rfl (Nat.le_of_ble_eq_true rfl) rfl rfl ⟨by decide, by decide⟩ ⟨Nat.zero_le _, Nat.zero_le _⟩) (fun x2 e2 => ?_)
  have hsl : (mw_rs S [0, 1, 2, 3, 4, 5, 6, 7, 8, 9, 10, 11, 12, 13, 14, 15, 16, 17, 18, 19, 20, 21, 22, 23, 24, 25, 26, 27, 28, 29, 30, 31, 32, 33, 34, 35, 36, 37, 38, 39, 40, 41, 42, 43, 44, 45, 46, 47, 48, 49, 50, 51, 52, 53, 54, 55, 56, 57, 58, 59, 60, 61, 62, 63, 64, 65, 66, 67, 68]).1 0 0 = slv fy := h.1
  rw [hsl] at e2
  rcases e2 with ⟨rfl, ha⟩ | ⟨rfl, ha⟩
  ·
    refine mw_if_eqN C 22 d_Wl_transfer_5 (by decide) (by omega) (fun h5 => ?_) (fun h5 => ?_)
    · exfalso; omega
    ·
      refine mw_iload_n C 2 d_Wl_transfer_8 rfl rfl ?_
      refine mw_run0i C (ix0 _ _) (mw_invS C (m_Wl_isAccount l D cA (nI k2) _) (ix0 _ _) kb_Wl_48 ws_Wl_isAccount d_Wl_transfer_9 rfl rfl (Nat.le_of_ble_eq_true rfl) rfl rfl ⟨by decide, by decide⟩ ⟨Nat.zero_le _, Nat.zero_le _⟩) (fun x9 e9 => ?_)
      rcases e9 with ⟨rfl, hb⟩ | ⟨rfl, hb⟩
      ·
        refine mw_if_eqN C 22 d_Wl_transfer_12 (by decide) (by omega) (fun h12 => ?_) (fun h12 => ?_)
        · exfalso; omega
        ·
          refine mw_iload_n C 3 d_Wl_transfer_15 rfl rfl ?_
          refine mw_run0i C (ix0 _ _) (mw_invS C (m_Wl_isAccount l D cA (nI k3) _) (ix0 _ _) kb_Wl_48 ws_Wl_isAccount d_Wl_transfer_16 rfl rfl (Nat.le_of_ble_eq_true rfl) rfl rfl ⟨by decide, by decide⟩ ⟨Nat.zero_le _, Nat.zero_le _⟩) (fun x16 e16 => ?_)
          rcases e16 with ⟨rfl, hd⟩ | ⟨rfl, hd⟩
          ·
            refine mw_if_neN C 32 d_Wl_transfer_19 (by decide) (by omega) (fun h19 => ?_) (fun h19 => ?_)
            ·
              refine mw_iload C d_Wl_transfer_32 rfl ?_
              refine mw_iconst C (v := nI 1) d_Wl_transfer_34 (by decide) ?_
              refine mw_icmp_ltN C 45 d_Wl_transfer_35 (by decide) (by omega) (by omega) (fun h35 => ?_) (fun h35 => ?_)
              · exfalso; omega
              ·
                refine mw_iload C d_Wl_transfer_38 rfl ?_
                refine mw_bipush C (v := nI 99) d_Wl_transfer_40 (by decide) ?_
                refine mw_icmp_leN C 55 d_Wl_transfer_42 (by decide) (by omega) (by omega) (fun h42 => ?_) (fun h42 => ?_)
                ·
                  have hi4 : k1 = 0 ∨ k1 = 1 ∨ k1 = 2 ∨ k1 = 3 := by omega
                  rcases hi4 with rfl | rfl | rfl | rfl
                  ·
                    refine mw_aload_n C 0 d_Wl_transfer_55 rfl rfl ?_
                    refine mw_getr C f_Wl_38 d_Wl_transfer_56 (by decide) rfl rfl ?_
                    refine mw_iload_n C 1 d_Wl_transfer_59 rfl rfl ?_
                    refine mw_aaldN C d_Wl_transfer_60 (by decide) rfl (by omega) (by decide) rfl ?_
                    refine mw_getr C f_Wl_60 d_Wl_transfer_61 (by decide) rfl rfl ?_
                    refine mw_astore C d_Wl_transfer_64 (by decide) ?_
                    refine mw_aload C d_Wl_transfer_66 rfl ?_
                    refine mw_run0i C ix_Tq0_Wl (mw_invV C (kk := 0) (m_Tq_isFull l D cA _ (σ.1 20 0) (by omega) (h.2.2.2.2.1.qc)) ix_Tq0_Wl kb_Wl_64 wm_Tq_isFull wv_Tq_isFull (by decide) rfl rfl d_Wl_transfer_68 rfl rfl (Nat.le_of_ble_eq_true rfl) rfl rfl ⟨by decide, by decide⟩ ⟨Nat.zero_le _, Nat.zero_le _⟩) (fun x68 e68 => ?_)
                    rcases e68 with ⟨rfl, hf⟩ | ⟨rfl, hf⟩
                    · exfalso; omega
                    ·
                      refine mw_if_eqN C 84 d_Wl_transfer_71 (by decide) (by omega) (fun h71 => ?_) (fun h71 => ?_)
                      ·
                        refine mw_aload C d_Wl_transfer_84 rfl ?_
                        refine mw_sipush C (v := nI 1000) d_Wl_transfer_86 (by decide) ?_
                        refine mw_iload C d_Wl_transfer_89 rfl ?_
                        refine mw_imulN C d_Wl_transfer_91 ?_
                        refine mw_bipush C (v := nI 10) d_Wl_transfer_92 (by decide) ?_
                        refine mw_iload_n C 2 d_Wl_transfer_94 rfl rfl ?_
                        refine mw_imulN C d_Wl_transfer_95 ?_
                        refine mw_iaddN C d_Wl_transfer_96 ?_
                        refine mw_iload_n C 3 d_Wl_transfer_97 rfl rfl ?_
                        refine mw_iaddN C d_Wl_transfer_98 ?_
                        refine mw_runv C ix_Tq0_Wl rfl (mw_invV C (kk := 0) (m_Tq_append l D cA _ _ (σ.1 20 0) hq (h.2.2.2.2.1.qc)) ix_Tq0_Wl kb_Wl_75 wm_Tq_append wv_Tq_append (by decide) rfl rfl d_Wl_transfer_99 rfl rfl (Nat.le_of_ble_eq_true rfl) rfl rfl ⟨by decide, by decide⟩ ⟨Nat.zero_le _, Nat.zero_le _⟩) (fun S99 e99 => ?_)
                        have hc := cR_queue0 h hJ hq e99
                        refine mw_aload C d_Wl_transfer_102 rfl ?_
                        refine mw_geti C f_Wl_78 d_Wl_transfer_104 (by decide) rfl rfl ?_
                        refine mw_eqi (show _ = nI (σ.1 20 0 + 1) from by show S99.1 0 1 = _; rw [e99]; rfl) ?_
                        refine mw_iret C hR d_Wl_transfer_107 ?_
                        exact ⟨rfl, hc⟩
                      · exfalso; omega
                  ·
                    refine mw_aload_n C 0 d_Wl_transfer_55 rfl rfl ?_
                    refine mw_getr C f_Wl_38 d_Wl_transfer_56 (by decide) rfl rfl ?_
                    refine mw_iload_n C 1 d_Wl_transfer_59 rfl rfl ?_
                    refine mw_aaldN C d_Wl_transfer_60 (by decide) rfl (by omega) (by decide) rfl ?_
                    refine mw_getr C f_Wl_60 d_Wl_transfer_61 (by decide) rfl rfl ?_
                    refine mw_astore C d_Wl_transfer_64 (by decide) ?_
                    refine mw_aload C d_Wl_transfer_66 rfl ?_
                    refine mw_run0i C ix_Tq1_Wl (mw_invV C (kk := 0) (m_Tq_isFull l D cA _ (σ.1 20 1) (by omega) (h.2.2.2.2.2.1.qc)) ix_Tq1_Wl kb_Wl_64 wm_Tq_isFull wv_Tq_isFull (by decide) rfl rfl d_Wl_transfer_68 rfl rfl (Nat.le_of_ble_eq_true rfl) rfl rfl ⟨by decide, by decide⟩ ⟨Nat.zero_le _, Nat.zero_le _⟩) (fun x68 e68 => ?_)
                    rcases e68 with ⟨rfl, hf⟩ | ⟨rfl, hf⟩
                    · exfalso; omega
                    ·
                      refine mw_if_eqN C 84 d_Wl_transfer_71 (by decide) (by omega) (fun h71 => ?_) (fun h71 => ?_)
                      ·
                        refine mw_aload C d_Wl_transfer_84 rfl ?_
                        refine mw_sipush C (v := nI 1000) d_Wl_transfer_86 (by decide) ?_
                        refine mw_iload C d_Wl_transfer_89 rfl ?_
                        refine mw_imulN C d_Wl_transfer_91 ?_
                        refine mw_bipush C (v := nI 10) d_Wl_transfer_92 (by decide) ?_
                        refine mw_iload_n C 2 d_Wl_transfer_94 rfl rfl ?_
                        refine mw_imulN C d_Wl_transfer_95 ?_
                        refine mw_iaddN C d_Wl_transfer_96 ?_
                        refine mw_iload_n C 3 d_Wl_transfer_97 rfl rfl ?_
                        refine mw_iaddN C d_Wl_transfer_98 ?_
                        refine mw_runv C ix_Tq1_Wl rfl (mw_invV C (kk := 0) (m_Tq_append l D cA _ _ (σ.1 20 1) hq (h.2.2.2.2.2.1.qc)) ix_Tq1_Wl kb_Wl_75 wm_Tq_append wv_Tq_append (by decide) rfl rfl d_Wl_transfer_99 rfl rfl (Nat.le_of_ble_eq_true rfl) rfl rfl ⟨by decide, by decide⟩ ⟨Nat.zero_le _, Nat.zero_le _⟩) (fun S99 e99 => ?_)
                        have hc := cR_queue1 h hJ hq e99
                        refine mw_aload C d_Wl_transfer_102 rfl ?_
                        refine mw_geti C f_Wl_78 d_Wl_transfer_104 (by decide) rfl rfl ?_
                        refine mw_eqi (show _ = nI (σ.1 20 1 + 1) from by show S99.1 0 1 = _; rw [e99]; rfl) ?_
                        refine mw_iret C hR d_Wl_transfer_107 ?_
                        exact ⟨rfl, hc⟩
                      · exfalso; omega
                  ·
                    refine mw_aload_n C 0 d_Wl_transfer_55 rfl rfl ?_
                    refine mw_getr C f_Wl_38 d_Wl_transfer_56 (by decide) rfl rfl ?_
                    refine mw_iload_n C 1 d_Wl_transfer_59 rfl rfl ?_
                    refine mw_aaldN C d_Wl_transfer_60 (by decide) rfl (by omega) (by decide) rfl ?_
                    refine mw_getr C f_Wl_60 d_Wl_transfer_61 (by decide) rfl rfl ?_
                    refine mw_astore C d_Wl_transfer_64 (by decide) ?_
                    refine mw_aload C d_Wl_transfer_66 rfl ?_
                    refine mw_run0i C ix_Tq2_Wl (mw_invV C (kk := 0) (m_Tq_isFull l D cA _ (σ.1 20 2) (by omega) (h.2.2.2.2.2.2.1.qc)) ix_Tq2_Wl kb_Wl_64 wm_Tq_isFull wv_Tq_isFull (by decide) rfl rfl d_Wl_transfer_68 rfl rfl (Nat.le_of_ble_eq_true rfl) rfl rfl ⟨by decide, by decide⟩ ⟨Nat.zero_le _, Nat.zero_le _⟩) (fun x68 e68 => ?_)
                    rcases e68 with ⟨rfl, hf⟩ | ⟨rfl, hf⟩
                    · exfalso; omega
                    ·
                      refine mw_if_eqN C 84 d_Wl_transfer_71 (by decide) (by omega) (fun h71 => ?_) (fun h71 => ?_)
                      ·
                        refine mw_aload C d_Wl_transfer_84 rfl ?_
                        refine mw_sipush C (v := nI 1000) d_Wl_transfer_86 (by decide) ?_
                        refine mw_iload C d_Wl_transfer_89 rfl ?_
                        refine mw_imulN C d_Wl_transfer_91 ?_
                        refine mw_bipush C (v := nI 10) d_Wl_transfer_92 (by decide) ?_
                        refine mw_iload_n C 2 d_Wl_transfer_94 rfl rfl ?_
                        refine mw_imulN C d_Wl_transfer_95 ?_
                        refine mw_iaddN C d_Wl_transfer_96 ?_
                        refine mw_iload_n C 3 d_Wl_transfer_97 rfl rfl ?_
                        refine mw_iaddN C d_Wl_transfer_98 ?_
                        refine mw_runv C ix_Tq2_Wl rfl (mw_invV C (kk := 0) (m_Tq_append l D cA _ _ (σ.1 20 2) hq (h.2.2.2.2.2.2.1.qc)) ix_Tq2_Wl kb_Wl_75 wm_Tq_append wv_Tq_append (by decide) rfl rfl d_Wl_transfer_99 rfl rfl (Nat.le_of_ble_eq_true rfl) rfl rfl ⟨by decide, by decide⟩ ⟨Nat.zero_le _, Nat.zero_le _⟩) (fun S99 e99 => ?_)
                        have hc := cR_queue2 h hJ hq e99
                        refine mw_aload C d_Wl_transfer_102 rfl ?_
                        refine mw_geti C f_Wl_78 d_Wl_transfer_104 (by decide) rfl rfl ?_
                        refine mw_eqi (show _ = nI (σ.1 20 2 + 1) from by show S99.1 0 1 = _; rw [e99]; rfl) ?_
                        refine mw_iret C hR d_Wl_transfer_107 ?_
                        exact ⟨rfl, hc⟩
                      · exfalso; omega
                  ·
                    refine mw_aload_n C 0 d_Wl_transfer_55 rfl rfl ?_
                    refine mw_getr C f_Wl_38 d_Wl_transfer_56 (by decide) rfl rfl ?_
                    refine mw_iload_n C 1 d_Wl_transfer_59 rfl rfl ?_
                    refine mw_aaldN C d_Wl_transfer_60 (by decide) rfl (by omega) (by decide) rfl ?_
                    refine mw_getr C f_Wl_60 d_Wl_transfer_61 (by decide) rfl rfl ?_
                    refine mw_astore C d_Wl_transfer_64 (by decide) ?_
                    refine mw_aload C d_Wl_transfer_66 rfl ?_
                    refine mw_run0i C ix_Tq3_Wl (mw_invV C (kk := 0) (m_Tq_isFull l D cA _ (σ.1 20 3) (by omega) (h.2.2.2.2.2.2.2.qc)) ix_Tq3_Wl kb_Wl_64 wm_Tq_isFull wv_Tq_isFull (by decide) rfl rfl d_Wl_transfer_68 rfl rfl (Nat.le_of_ble_eq_true rfl) rfl rfl ⟨by decide, by decide⟩ ⟨Nat.zero_le _, Nat.zero_le _⟩) (fun x68 e68 => ?_)
                    rcases e68 with ⟨rfl, hf⟩ | ⟨rfl, hf⟩
                    · exfalso; omega
                    ·
                      refine mw_if_eqN C 84 d_Wl_transfer_71 (by decide) (by omega) (fun h71 => ?_) (fun h71 => ?_)
                      ·
                        refine mw_aload C d_Wl_transfer_84 rfl ?_
                        refine mw_sipush C (v := nI 1000) d_Wl_transfer_86 (by decide) ?_
                        refine mw_iload C d_Wl_transfer_89 rfl ?_
                        refine mw_imulN C d_Wl_transfer_91 ?_
                        refine mw_bipush C (v := nI 10) d_Wl_transfer_92 (by decide) ?_
                        refine mw_iload_n C 2 d_Wl_transfer_94 rfl rfl ?_
                        refine mw_imulN C d_Wl_transfer_95 ?_
                        refine mw_iaddN C d_Wl_transfer_96 ?_
                        refine mw_iload_n C 3 d_Wl_transfer_97 rfl rfl ?_
                        refine mw_iaddN C d_Wl_transfer_98 ?_
                        refine mw_runv C ix_Tq3_Wl rfl (mw_invV C (kk := 0) (m_Tq_append l D cA _ _ (σ.1 20 3) hq (h.2.2.2.2.2.2.2.qc)) ix_Tq3_Wl kb_Wl_75 wm_Tq_append wv_Tq_append (by decide) rfl rfl d_Wl_transfer_99 rfl rfl (Nat.le_of_ble_eq_true rfl) rfl rfl ⟨by decide, by decide⟩ ⟨Nat.zero_le _, Nat.zero_le _⟩) (fun S99 e99 => ?_)
                        have hc := cR_queue3 h hJ hq e99
                        refine mw_aload C d_Wl_transfer_102 rfl ?_
                        refine mw_geti C f_Wl_78 d_Wl_transfer_104 (by decide) rfl rfl ?_
                        refine mw_eqi (show _ = nI (σ.1 20 3 + 1) from by show S99.1 0 1 = _; rw [e99]; rfl) ?_
                        refine mw_iret C hR d_Wl_transfer_107 ?_
                        exact ⟨rfl, hc⟩
                      · exfalso; omega
                · exfalso; omega
            · exfalso; omega
          · exact absurd ⟨k3, hk3, rfl⟩ hd
      · exact absurd ⟨k2, hk2, rfl⟩ hb
  · exact absurd ⟨k1, hk, rfl, fun e => he ((slv_eq hk).mp e)⟩ ha
theorem aJ_forge {fy B : Nat} {σ : aS} (h : aJ fy B σ) {place k t : Nat} (w : Int64) (hfg : σ.1 0 10 < 24) (hp : place < 48) (hk : k < 16) (ht : a_tok t) : aJ fy B (a_newV (a_up σ 0 10 (σ.1 0 10 + 1)) place k w t) := by
  have hvs := h.1.vs
  have hI1 : aI fy B (a_up σ 0 10 (σ.1 0 10 + 1)) := by
    have hI := h.1
    exact (aI_mk (hI.pl) (hI.st) (hI.tr) (hI.qu) (hI.f6) (hI.f7) (hI.f9) (hI.f10) (hI.f15) (hI.ac) (hI.vo) (hI.bl) (hI.ow) (hI.cm) (hI.oc) (hI.qd) (hI.be) (show σ.1 0 10 + 1 ≤ 24 from by omega) (show σ.1 0 5 ≤ a_own σ + (σ.1 0 10 + 1) from by omega) (hI.mm) (hI.wt))
  refine ⟨aI_newV hI1 w hp hk ht (show σ.1 0 5 + 1 ≤ a_own σ + (σ.1 0 10 + 1) from by omega), a_V_eq h.2.1 (fun _ hj => hj) (fun _ hj => hj) (fun _ => rfl) (fun _ => rfl), fun n hn => a_gi_newV hI1 hn (h.2.2 n hn) _ _ _ _⟩
theorem pos_lt : ∀ {ix : List Nat} {k i : Nat}, mw_pos ix k = some i → i < ix.length
  | [], _, _, h => by cases h
  | a :: l, k, i, h => by
    unfold mw_pos at h
    cases hb : Nat.beq a k
    · rw [hb] at h
      dsimp only [cond] at h
      cases hp : mw_pos l k with
      | none => rw [hp] at h; cases h
      | some m =>
        rw [hp] at h
        have hm := pos_lt hp
        cases h
        exact Nat.succ_lt_succ hm
    · rw [hb] at h
      cases h
      exact Nat.succ_pos _
theorem mg_congr {T S1 S2 : mw_S} {ix : List Nat} (h : ∀ i, i < ix.length → S1.1 i = S2.1 i ∧ S1.2 i = S2.2 i) (k : Nat) : (mw_mg T ix S1).1 k = (mw_mg T ix S2).1 k ∧ (mw_mg T ix S1).2 k = (mw_mg T ix S2).2 k := by
  unfold mw_mg
  dsimp only
  cases hp : mw_pos ix k with
  | none => exact ⟨rfl, rfl⟩
  | some i => exact h i (pos_lt hp)
theorem mg_tr {a b c : Nat → Int32} {a' b' c' : Nat → Int64} (h : a = b ∧ a' = b') (h2 : b = c ∧ b' = c') : a = c ∧ a' = c' := ⟨h.1.trans h2.1, h.2.trans h2.2⟩
theorem cR_newV {cn : Int32} {fy B : Nat} {σ : aS} {S S1 : mw_S} {place k t : Nat} {w : Int64} (h : cR cn fy σ S) (hI : aI fy B σ) (hg : ∀ n, n < 4 → a_gi σ n) (e : S1 = mw_uI (mw_uL (mw_uI (mw_uI (mw_uI (mw_rs S [2, 3, 4, 5, 6]) 0 4 (nI (σ.1 0 5 + 1))) 1 (σ.1 0 5 + 1) (nI place)) 2 (σ.1 0 5 + 1) (nI k)) 3 (σ.1 0 5 + 1) w) 4 (σ.1 0 5 + 1) (nI t)) : cR cn fy (a_newV σ place k w t) (mw_mg S [2, 3, 4, 5, 6] S1) := by
  exact ⟨h.1, h.2.1, h.2.2.1, h.2.2.2.1, nR_cells (nR_newV (B := B) h.2.2.2.2.1 hI (hg 0 (by decide)) (by decide) rfl) (fun k hk => mg_tr (rm_mg ((by decide : ∀ k, k < 22 → mw_pos [2, 3, 4, 5, 6] (mw_ixf [9, 10, 11, 12, 13, 14, 15, 16, 17, 18, 19, 20, 21, 22, 23, 2, 3, 4, 5, 6, 7, 8] k) = mw_pos [15, 16, 17, 18, 19] k) k hk)) (mg_congr (fun i hi => by have h5 : i = 0 ∨ i = 1 ∨ i = 2 ∨ i = 3 ∨ i = 4 := (by have h6 : i < 5 := hi; omega); subst e; rcases h5 with rfl | rfl | rfl | rfl | rfl <;> exact ⟨rfl, rfl⟩) k)), nR_cells (nR_newV (B := B) h.2.2.2.2.2.1 hI (hg 1 (by decide)) (by decide) rfl) (fun k hk => mg_tr (rm_mg ((by decide : ∀ k, k < 22 → mw_pos [2, 3, 4, 5, 6] (mw_ixf [24, 25, 26, 27, 28, 29, 30, 31, 32, 33, 34, 35, 36, 37, 38, 2, 3, 4, 5, 6, 7, 8] k) = mw_pos [15, 16, 17, 18, 19] k) k hk)) (mg_congr (fun i hi => by have h5 : i = 0 ∨ i = 1 ∨ i = 2 ∨ i = 3 ∨ i = 4 := (by have h6 : i < 5 := hi; omega); subst e; rcases h5 with rfl | rfl | rfl | rfl | rfl <;> exact ⟨rfl, rfl⟩) k)), nR_cells (nR_newV (B := B) h.2.2.2.2.2.2.1 hI (hg 2 (by decide)) (by decide) rfl) (fun k hk => mg_tr (rm_mg ((by decide : ∀ k, k < 22 → mw_pos [2, 3, 4, 5, 6] (mw_ixf [39, 40, 41, 42, 43, 44, 45, 46, 47, 48, 49, 50, 51, 52, 53, 2, 3, 4, 5, 6, 7, 8] k) = mw_pos [15, 16, 17, 18, 19] k) k hk)) (mg_congr (fun i hi => by have h5 : i = 0 ∨ i = 1 ∨ i = 2 ∨ i = 3 ∨ i = 4 := (by have h6 : i < 5 := hi; omega); subst e; rcases h5 with rfl | rfl | rfl | rfl | rfl <;> exact ⟨rfl, rfl⟩) k)), nR_cells (nR_newV (B := B) h.2.2.2.2.2.2.2 hI (hg 3 (by decide)) (by decide) rfl) (fun k hk => mg_tr (rm_mg ((by decide : ∀ k, k < 22 → mw_pos [2, 3, 4, 5, 6] (mw_ixf [54, 55, 56, 57, 58, 59, 60, 61, 62, 63, 64, 65, 66, 67, 68, 2, 3, 4, 5, 6, 7, 8] k) = mw_pos [15, 16, 17, 18, 19] k) k hk)) (mg_congr (fun i hi => by have h5 : i = 0 ∨ i = 1 ∨ i = 2 ∨ i = 3 ∨ i = 4 := (by have h6 : i < 5 := hi; omega); subst e; rcases h5 with rfl | rfl | rfl | rfl | rfl <;> exact ⟨rfl, rfl⟩) k))⟩
set_option maxHeartbeats 4000000 in
set_option maxRecDepth 100000 in
theorem m_Wl_forge_0 (l : Launch) (D : va_G) (cA : Nat → ClassId) (cn : Int32) (σ : aS) (fy B r k t : Nat) (x4 : Int32) (x3 : Int64) (S : mw_S) (h : cR cn fy σ S) (hJ : aJ fy B σ) (hr1 : 1 ≤ r) (hr2 : r ≤ 12) (hk : k ≤ 15) (h3 : x3 &&& (-281474976710656) = 0) (h4 : tOK x4) (hx4 : x4 = nI t) (hgood : fy < 4) (hfg : σ.1 0 10 < 24) : mw_M true l lw_tbl y_Wl_forge b_Wl_forge 6 (some .int) { frames := 2, cells := 0, slots := 0, locals := 41 } D vCl cA sh_Wl 69 [.inr (.inr 0), .inl (nI r), .inl (nI k), .inr (.inl x3), .inl x4] (S) (mw_Pi (fun z S' => z = nI (σ.1 0 5 + 1) ∧ cR cn fy (a_newV (a_up σ 0 10 (σ.1 0 10 + 1)) (4 * (r - 1) + fy) k x3 t) S')) := by
  refine mw_M_of (by decide) (Nat.le_of_ble_eq_true rfl) ?_
  intro p e s m args below meth c A ad C hR
  have hvs := hJ.1.vs
  have hoo : a_own σ ≤ 48 := by
    have a0 := hJ.1.ow 0
    have a1 := hJ.1.ow 1
    have a2 := hJ.1.ow 2
    have a3 := hJ.1.ow 3
    unfold a_own
    omega
  have hsf : slv fy = nI fy := by unfold slv; rw [if_pos hgood]
  have hnm : ¬ nI fy = -1 := by
    have hd : ∀ c, c < 4 → ¬ nI c = -1 := by decide
    exact hd fy hgood
  refine mw_iload_n C 1 d_Wl_forge_0 rfl rfl ?_
  refine mw_iconst C (v := nI 1) d_Wl_forge_1 (by decide) ?_
  refine mw_icmp_ltN C 21 d_Wl_forge_2 (by decide) (by omega) (by omega) (fun h2 => ?_) (fun h2 => ?_)
  · exfalso; omega
  ·
    refine mw_iload_n C 1 d_Wl_forge_5 rfl rfl ?_
    refine mw_bipush C (v := nI 12) d_Wl_forge_6 (by decide) ?_
    refine mw_icmp_gtN C 21 d_Wl_forge_8 (by decide) (by omega) (by omega) (fun h8 => ?_) (fun h8 => ?_)
    · exfalso; omega
    ·
      refine mw_iload_n C 2 d_Wl_forge_11 rfl rfl ?_
      refine mw_if_ltN C 21 d_Wl_forge_12 (by decide) (by omega) ?_
      refine mw_iload_n C 2 d_Wl_forge_15 rfl rfl ?_
      refine mw_bipush C (v := nI 15) d_Wl_forge_16 (by decide) ?_
      refine mw_icmp_leN C 31 d_Wl_forge_18 (by decide) (by omega) (by omega) (fun h18 => ?_) (fun h18 => ?_)
      ·
        refine mw_lload_n C 3 d_Wl_forge_31 rfl rfl ?_
        refine mw_ldc2 C kc_Wl_100 d_Wl_forge_32 ?_
        refine mw_land C d_Wl_forge_35 ?_
        refine mw_lconst C (v := 0) d_Wl_forge_36 (by decide) ?_
        refine mw_lcmp C d_Wl_forge_37 ?_
        refine mw_if_ne C 49 d_Wl_forge_38 (by decide) (fun h38 => ?_) (fun h38 => ?_)
        · exact absurd ((lg_cmp_eq _ _).mpr h3) h38
        ·
          refine mw_iload C d_Wl_forge_41 rfl ?_
          refine mw_run0i C (ix0 _ _) (mw_invS C (m_Wl_isTransferOrNone l D cA x4 _) (ix0 _ _) kb_Wl_102 ws_Wl_isTransferOrNone d_Wl_forge_43 rfl rfl (Nat.le_of_ble_eq_true rfl) rfl rfl ⟨by decide, by decide⟩ ⟨Nat.zero_le _, Nat.zero_le _⟩) (fun x43 e43 => ?_)
          rcases e43 with ⟨rfl, hq⟩ | ⟨rfl, hq⟩
          ·
            refine mw_if_neN C 59 d_Wl_forge_46 (by decide) (by omega) (fun h46 => ?_) (fun h46 => ?_)
            ·
              refine mw_aload_n C 0 d_Wl_forge_59 rfl rfl ?_
              refine mw_geti C f_Wl_26 d_Wl_forge_60 (by decide) rfl rfl ?_
              refine mw_eqi (show _ = nI fy from h.1.trans hsf) ?_
              refine mw_iconst C (v := (-1)) d_Wl_forge_63 (by decide) ?_
              refine mw_icmp_eq C 76 d_Wl_forge_64 (by decide) (fun h64 => ?_) (fun h64 => ?_)
              · exact absurd h64 hnm
              ·
                refine mw_aload_n C 0 d_Wl_forge_67 rfl rfl ?_
                refine mw_geti C f_Wl_107 d_Wl_forge_68 (by decide) rfl rfl ?_
                refine mw_eqi h.2.2.1 ?_
                refine mw_bipush C (v := nI 24) d_Wl_forge_71 (by decide) ?_
                refine mw_icmp_ltN C 86 d_Wl_forge_73 (by decide) (by omega) (by omega) (fun h73 => ?_) (fun h73 => ?_)
                ·
                  refine mw_aload_n C 0 d_Wl_forge_86 rfl rfl ?_
                  refine mw_dup C d_Wl_forge_87 rfl ?_
                  refine mw_geti C f_Wl_107 d_Wl_forge_88 (by decide) rfl rfl ?_
                  refine mw_eqi h.2.2.1 ?_
                  refine mw_iconst C (v := nI 1) d_Wl_forge_91 (by decide) ?_
                  refine mw_iaddN C d_Wl_forge_92 ?_
                  refine mw_puti C rfl f_Wl_107 p_Wl_5 d_Wl_forge_93 (by decide) rfl rfl ?_
                  have h5 := cR_10 h (σ.1 0 10 + 1)
                  have hI1 : aI fy B (a_up σ 0 10 (σ.1 0 10 + 1)) := by
                    have hI := hJ.1
                    exact (aI_mk (hI.pl) (hI.st) (hI.tr) (hI.qu) (hI.f6) (hI.f7) (hI.f9) (hI.f10) (hI.f15) (hI.ac) (hI.vo) (hI.bl) (hI.ow) (hI.cm) (hI.oc) (hI.qd) (hI.be) (show σ.1 0 10 + 1 ≤ 24 from by omega) (show σ.1 0 5 ≤ a_own σ + (σ.1 0 10 + 1) from by omega) (hI.mm) (hI.wt))
                  refine mw_aload_n C 0 d_Wl_forge_96 rfl rfl ?_
                  refine mw_getr C f_Wl_30 d_Wl_forge_97 (by decide) rfl rfl ?_
                  refine mw_iload_n C 1 d_Wl_forge_100 rfl rfl ?_
                  refine mw_aload_n C 0 d_Wl_forge_101 rfl rfl ?_
                  refine mw_geti C f_Wl_26 d_Wl_forge_102 (by decide) rfl rfl ?_
                  refine mw_eqi (show _ = nI fy from h.1.trans hsf) ?_
                  refine mw_run0i C (ix0 _ _) (mw_invS C (m_Wl_numberOf l D cA r fy hr1 _) (ix0 _ _) kb_Wl_112 ws_Wl_numberOf d_Wl_forge_105 rfl rfl (Nat.le_of_ble_eq_true rfl) rfl rfl ⟨by decide, by decide⟩ ⟨Nat.zero_le _, Nat.zero_le _⟩) (fun x105 e105 => ?_)
                  subst e105
                  refine mw_iload_n C 2 d_Wl_forge_108 rfl rfl ?_
                  refine mw_lload_n C 3 d_Wl_forge_109 rfl rfl ?_
                  refine mw_iload C d_Wl_forge_110 rfl ?_
                  subst hx4
                  refine mw_runi C ix_Ve_Wl rfl (mw_invV C (kk := 0) (m_Ve_make l D cA (nI (4 * (r - 1) + fy)) (nI k) (nI t) x3 _ (σ.1 0 5) (by omega) h5.2.2.2.2.1.vn) ix_Ve_Wl kb_Wl_116 wm_Ve_make wv_Ve_make (by decide) rfl rfl d_Wl_forge_112 rfl rfl (Nat.le_of_ble_eq_true rfl) rfl rfl ⟨by decide, by decide⟩ ⟨Nat.zero_le _, Nat.zero_le _⟩) (fun x112 S112 e112 => ?_)
                  obtain ⟨rfl, e112⟩ := e112
                  refine mw_iret C hR d_Wl_forge_115 ?_
                  exact ⟨rfl, cR_newV h5 hI1 hJ.2.2 e112⟩
                · exfalso; omega
            · exfalso; omega
          · exact absurd h4 hq
      · exfalso; omega
theorem aJ_send {fy B : Nat} {σ : aS} (h : aJ fy B σ) {kind fr to v : Nat} (hk : kind ≤ 2) (hf : fr < 4) (ht : to < 4) (hv : 1 ≤ v) (hv2 : v ≤ σ.1 0 5) : aJ fy (B + 1) (a_send fy σ kind fr to v) := ⟨aI_send h.1 hk hf ht hv hv2, a_V_kp h.2.1 (a_send_kp fy σ kind fr to v).1 (by unfold a_S; decide), fun n hn => a_gi_kp (h.2.2 n hn) (a_send_kp fy σ kind fr to v).1 (by unfold a_S; decide)⟩
theorem cR_send {cn : Int32} {fy : Nat} {σ : aS} {S S1 : mw_S} {kd fr to v : Nat} (h : cR cn fy σ S) (hkd : kd < 4) (hfr : fr < 4) (hto : to < 4) (hv : v < 80) (hne : ¬ to = fy) (e : S1 = mw_uI (mw_uI (mw_rs S [7, 8]) 1 (σ.1 0 12) (nI (v * 64 + to * 16 + fr * 4 + kd))) 0 2 (nI (σ.1 0 12 + 1))) : cR cn fy (a_send fy σ kd fr to v) (mw_mg S [7, 8] S1) := by
  subst e
  have hs := a_send_kp fy σ kd fr to v
  have hmw := h.2.2.2.2.1.mw
  refine cR_mail h hs.1 hs.2 rfl ?_ (fun i hi => ?_)
  · unfold a_send
    rw [if_neg hne, a_up_s]
    rfl
  · unfold a_send at hi ⊢
    rw [if_neg hne] at hi ⊢
    rw [a_up_s] at hi
    rw [a_up_f _ _ _ _ (by decide), a_up_at]
    show upd (S.1 8) (σ.1 0 12) (nI (v * 64 + to * 16 + fr * 4 + kd)) i = _
    unfold upd
    by_cases e : i = σ.1 0 12
    · rw [if_pos e, if_pos ⟨rfl, e⟩]
      congr 1
      unfold a_cls a_msg
      omega
    · rw [if_neg e, if_neg (fun hh => e hh.2)]
      exact hmw i (by omega)
set_option maxHeartbeats 4000000 in
set_option maxRecDepth 100000 in
theorem m_Wl_whisper_0 (l : Launch) (D : va_G) (cA : Nat → ClassId) (cn : Int32) (σ : aS) (fy kd k2 v : Nat) (S : mw_S) (h : cR cn fy σ S) (hkd : kd ≤ 2) (hk2 : k2 < 4) (he : ¬ k2 = fy) (hv1 : 1 ≤ v) (hv2 : v ≤ σ.1 0 5) (hvs : σ.1 0 5 < 79) (hgood : fy < 4) (hm : σ.1 0 12 < 2240) : mw_M true l lw_tbl y_Wl_whisper b_Wl_whisper 4 (some .int) { frames := 2, cells := 0, slots := 0, locals := 41 } D vCl cA sh_Wl 69 [.inr (.inr 0), .inl (nI kd), .inl (nI k2), .inl (nI v)] (S) (mw_Pi (fun z S' => z = nI (σ.1 0 12 + 1) ∧ cR cn fy (a_send fy σ kd fy k2 v) S')) := by
  refine mw_M_of (by decide) (Nat.le_of_ble_eq_true rfl) ?_
  intro p e s m args below meth c A ad C hR
  have hsf : slv fy = nI fy := by unfold slv; rw [if_pos hgood]
  have hnm : ¬ nI fy = -1 := by
    have hd : ∀ c, c < 4 → ¬ nI c = -1 := by decide
    exact hd fy hgood
  refine mw_iload_n C 1 d_Wl_whisper_0 rfl rfl ?_
  refine mw_if_ltN C 28 d_Wl_whisper_1 (by decide) (by omega) ?_
  refine mw_iload_n C 1 d_Wl_whisper_4 rfl rfl ?_
  refine mw_iconst C (v := nI 2) d_Wl_whisper_5 (by decide) ?_
  refine mw_icmp_gtN C 28 d_Wl_whisper_6 (by decide) (by omega) (by omega) (fun h6 => ?_) (fun h6 => ?_)
  · exfalso; omega
  ·
    refine mw_aload_n C 0 d_Wl_whisper_9 rfl rfl ?_
    refine mw_iload_n C 2 d_Wl_whisper_10 rfl rfl ?_
    refine mw_run0i C ix_Wl_Wl (mw_invV C (kk := 0) (m_Wl_isActive l D cA (nI k2) _) ix_Wl_Wl kb_Wl_45 wm_Wl_isActive wv_Wl_isActive (by decide) rfl rfl d_Wl_whisper_11 rfl rfl (Nat.le_of_ble_eq_true rfl) rfl rfl ⟨by decide, by decide⟩ ⟨Nat.zero_le _, Nat.zero_le _⟩) (fun x11 e11 => ?_)
    have hsl : (mw_rs S [0, 1, 2, 3, 4, 5, 6, 7, 8, 9, 10, 11, 12, 13, 14, 15, 16, 17, 18, 19, 20, 21, 22, 23, 24, 25, 26, 27, 28, 29, 30, 31, 32, 33, 34, 35, 36, 37, 38, 39, 40, 41, 42, 43, 44, 45, 46, 47, 48, 49, 50, 51, 52, 53, 54, 55, 56, 57, 58, 59, 60, 61, 62, 63, 64, 65, 66, 67, 68]).1 0 0 = slv fy := h.1
    rw [hsl] at e11
    rcases e11 with ⟨rfl, ha⟩ | ⟨rfl, ha⟩
    ·
      refine mw_if_eqN C 28 d_Wl_whisper_14 (by decide) (by omega) (fun h14 => ?_) (fun h14 => ?_)
      · exfalso; omega
      ·
        refine mw_aload_n C 0 d_Wl_whisper_17 rfl rfl ?_
        refine mw_getr C f_Wl_30 d_Wl_whisper_18 (by decide) rfl rfl ?_
        refine mw_iload_n C 3 d_Wl_whisper_21 rfl rfl ?_
        refine mw_run0i C ix_Ve_Wl (mw_invV C (kk := 0) (m_Ve_has l D cA (nI v) _ (σ.1 0 5) (by omega) h.2.2.2.2.1.vn) ix_Ve_Wl kb_Wl_120 wm_Ve_has wv_Ve_has (by decide) rfl rfl d_Wl_whisper_22 rfl rfl (Nat.le_of_ble_eq_true rfl) rfl rfl ⟨by decide, by decide⟩ ⟨Nat.zero_le _, Nat.zero_le _⟩) (fun x22 e22 => ?_)
        rcases e22 with ⟨rfl, hb⟩ | ⟨rfl, hb⟩
        ·
          refine mw_if_neN C 38 d_Wl_whisper_25 (by decide) (by omega) (fun h25 => ?_) (fun h25 => ?_)
          ·
            refine mw_aload_n C 0 d_Wl_whisper_38 rfl rfl ?_
            refine mw_geti C f_Wl_26 d_Wl_whisper_39 (by decide) rfl rfl ?_
            refine mw_eqi (show _ = nI fy from h.1.trans hsf) ?_
            refine mw_iconst C (v := (-1)) d_Wl_whisper_42 (by decide) ?_
            refine mw_icmp_ne C 56 d_Wl_whisper_43 (by decide) (fun h43 => ?_) (fun h43 => ?_)
            ·
              refine mw_aload_n C 0 d_Wl_whisper_56 rfl rfl ?_
              refine mw_getr C f_Wl_34 d_Wl_whisper_57 (by decide) rfl rfl ?_
              refine mw_iload_n C 1 d_Wl_whisper_60 rfl rfl ?_
              refine mw_aload_n C 0 d_Wl_whisper_61 rfl rfl ?_
              refine mw_geti C f_Wl_26 d_Wl_whisper_62 (by decide) rfl rfl ?_
              refine mw_eqi (show _ = nI fy from h.1.trans hsf) ?_
              refine mw_iload_n C 2 d_Wl_whisper_65 rfl rfl ?_
              refine mw_iload_n C 3 d_Wl_whisper_66 rfl rfl ?_
              refine mw_runv C ix_Ma_Wl rfl (mw_invV C (kk := 0) (m_Ma_send l D cA kd fy k2 v _ (σ.1 0 12) (by omega) hgood hk2 (by omega) hm h.2.2.2.2.1.mc) ix_Ma_Wl kb_Wl_125 wm_Ma_send wv_Ma_send (by decide) rfl rfl d_Wl_whisper_67 rfl rfl (Nat.le_of_ble_eq_true rfl) rfl rfl ⟨by decide, by decide⟩ ⟨Nat.zero_le _, Nat.zero_le _⟩) (fun S67 e67 => ?_)
              have hc := cR_send h (by omega) hgood hk2 (by omega) he e67
              refine mw_aload_n C 0 d_Wl_whisper_70 rfl rfl ?_
              refine mw_getr C f_Wl_34 d_Wl_whisper_71 (by decide) rfl rfl ?_
              refine mw_geti C f_Wl_90 d_Wl_whisper_74 (by decide) rfl rfl ?_
              refine mw_eqi (show _ = nI (σ.1 0 12 + 1) from by show S67.1 0 2 = _; rw [e67]; rfl) ?_
              refine mw_iret C hR d_Wl_whisper_77 ?_
              exact ⟨rfl, hc⟩
            · exact absurd h43 hnm
          · exfalso; omega
        · exact absurd ⟨v, hv1, hv2, rfl⟩ hb
    · exact absurd ⟨k2, hk2, rfl, fun e => he ((slv_eq hk2).mp e)⟩ ha
