/-! the ledger's calls -/
theorem nR_0 {cn : Int32} {fy node : Nat} {σ τ : aS} {S : mw_S} (h : nR cn fy node σ S) (k : ∀ f j, f ≠ 0 → τ.1 f j = σ.1 f j) (k5 : τ.1 0 5 = σ.1 0 5) (k12 : τ.1 0 12 = σ.1 0 12) (kw : τ.2.1 = σ.2.1) : nR cn fy node τ S := by
  have kr : ∀ so i, a_row τ node so i = a_row σ node so i := fun so i => a_row_eq node so i (fun j => k 1 j (by decide)) (fun j => k 2 j (by decide)) (fun j => k 8 j (by decide)) (fun j => k 9 j (by decide)) kw
  have ks : ∀ f, f ≠ 0 → a_setF τ f node 48 = a_setF σ f node 48 := fun f a => a_setF_eq (fun i _ => k f _ a)
  exact (nR_mk (h.se) (h.co) (by rw [ks 6 (by decide)]; exact h.ec) (by rw [ks 7 (by decide)]; exact h.rd) (by rw [k 14 _ (by decide)]; exact h.ow) (by rw [k 16 _ (by decide)]; exact h.cm) (by rw [k 15 _ (by decide)]; exact h.lw) (by rw [ks 9 (by decide)]; exact h.ad) (fun i hi => by rw [k 8 _ (by decide)]; exact h.ac i hi) (fun i hi => by rw [kr]; exact h.pa i hi) (fun i hi => by rw [kr]; exact h.sp i hi) (by rw [ks 10 (by decide)]; exact h.en) (by rw [k 17 _ (by decide)]; exact h.oc) (fun i hi => by rw [k 17 _ (by decide)] at hi; rw [k 11 _ (by decide)]; exact h.od i hi) (fun j hj => by rw [k 18 _ (by decide)]; exact h.ba j hj) (by rw [k 20 _ (by decide)]; exact h.qc) (fun i hi => by rw [k 20 _ (by decide)] at hi; rw [k 19 _ (by decide)]; exact h.qu i hi) (fun j hj => by rw [k 12 _ (by decide)]; exact h.ev j hj) (fun j hj => by rw [k 13 _ (by decide)]; exact h.rv j hj) (by rw [k5]; exact h.vn) (fun v hv => by rw [k 1 _ (by decide)]; exact h.vp v hv) (fun v hv => by rw [k 2 _ (by decide)]; exact h.vs v hv) (fun v hv => by rw [kw]; exact h.vw v hv) (fun v hv => by rw [k 4 _ (by decide)]; exact h.vt v hv) (h.si) (by rw [k12]; exact h.mc) (fun i hi => by rw [k12] at hi; rw [k 5 _ (by decide)]; exact h.mw i hi))
theorem u0_cells (S : mw_S) (j : Nat) (x : Int32) {ix : List Nat} (hx : ∀ k, k < 22 → mw_ixf ix k ≠ 0) : ∀ k, k < 22 → (mw_rs (mw_uI S 0 j x) ix).1 k = (mw_rs S ix).1 k ∧ (mw_rs (mw_uI S 0 j x) ix).2 k = (mw_rs S ix).2 k := fun k hk => ⟨by
  show (mw_uI S 0 j x).1 (mw_ixf ix k) = S.1 (mw_ixf ix k)
  rw [mw_uI_1, if_neg (hx k hk)], rfl⟩
theorem cR_0 {cn : Int32} {fy : Nat} {σ τ : aS} {S : mw_S} (h : cR cn fy σ S) (k : ∀ f j, f ≠ 0 → τ.1 f j = σ.1 f j) (k0 : ∀ j, j ≠ 0 → τ.1 0 j = σ.1 0 j) (k2 : τ.2 = σ.2) : cR cn fy τ S := ⟨h.1, by rw [k2]; exact h.2.1, by rw [k0 10 (by decide)]; exact h.2.2.1, by rw [k0 4 (by decide)]; exact h.2.2.2.1, nR_0 h.2.2.2.2.1 k (k0 5 (by decide)) (k0 12 (by decide)) (by rw [k2]), nR_0 h.2.2.2.2.2.1 k (k0 5 (by decide)) (k0 12 (by decide)) (by rw [k2]), nR_0 h.2.2.2.2.2.2.1 k (k0 5 (by decide)) (k0 12 (by decide)) (by rw [k2]), nR_0 h.2.2.2.2.2.2.2 k (k0 5 (by decide)) (k0 12 (by decide)) (by rw [k2])⟩
theorem cR_rz {cn : Int32} {fy : Nat} {σ : aS} {S : mw_S} (h : cR cn fy σ S) (c : Nat) : cR cn fy (a_rz σ c) S := cR_0 h (fun f j hf => a_up_f _ _ _ _ hf) (fun j hj => a_up_j _ _ _ _ hj) rfl
theorem aJ_rz {fy B : Nat} {σ : aS} (h : aJ fy B σ) (c : Nat) : aJ fy B (a_rz σ c) := ⟨aI_rz h.1 c, h.2.1, h.2.2⟩
theorem aJ_dr {fy B : Nat} {σ : aS} (h : aJ fy B σ) (x : Int32) : aJ fy B (a_dr σ x) := ⟨aI_dr h.1 x, h.2.1, h.2.2⟩
theorem aJ_4 {fy B : Nat} {σ : aS} (h : aJ fy B σ) : aJ fy B (a_up σ 0 4 1) := ⟨aI_4 h.1, h.2.1, h.2.2⟩
theorem cR_dr {cn : Int32} {fy : Nat} {σ : aS} {S : mw_S} (h : cR cn fy σ S) (x : Int32) : cR cn fy (a_dr σ x) (mw_uI S 0 4 x) := ⟨h.1, rfl, h.2.2.1, h.2.2.2.1, nR_cells (nR_0 (τ := a_dr σ x) h.2.2.2.2.1 (fun _ _ _ => rfl) rfl rfl rfl) (u0_cells S 4 x (by decide)), nR_cells (nR_0 (τ := a_dr σ x) h.2.2.2.2.2.1 (fun _ _ _ => rfl) rfl rfl rfl) (u0_cells S 4 x (by decide)), nR_cells (nR_0 (τ := a_dr σ x) h.2.2.2.2.2.2.1 (fun _ _ _ => rfl) rfl rfl rfl) (u0_cells S 4 x (by decide)), nR_cells (nR_0 (τ := a_dr σ x) h.2.2.2.2.2.2.2 (fun _ _ _ => rfl) rfl rfl rfl) (u0_cells S 4 x (by decide))⟩
theorem cR_4 {cn : Int32} {fy : Nat} {σ : aS} {S : mw_S} (h : cR cn fy σ S) : cR cn fy (a_up σ 0 4 1) (mw_uI S 0 6 (nI 1)) := ⟨h.1, h.2.1, h.2.2.1, rfl, nR_cells (nR_0 (τ := a_up σ 0 4 1) h.2.2.2.2.1 (fun f i hf => a_up_f _ _ _ _ hf) rfl rfl rfl) (u0_cells S 6 (nI 1) (by decide)), nR_cells (nR_0 (τ := a_up σ 0 4 1) h.2.2.2.2.2.1 (fun f i hf => a_up_f _ _ _ _ hf) rfl rfl rfl) (u0_cells S 6 (nI 1) (by decide)), nR_cells (nR_0 (τ := a_up σ 0 4 1) h.2.2.2.2.2.2.1 (fun f i hf => a_up_f _ _ _ _ hf) rfl rfl rfl) (u0_cells S 6 (nI 1) (by decide)), nR_cells (nR_0 (τ := a_up σ 0 4 1) h.2.2.2.2.2.2.2 (fun f i hf => a_up_f _ _ _ _ hf) rfl rfl rfl) (u0_cells S 6 (nI 1) (by decide))⟩
theorem cR_10 {cn : Int32} {fy : Nat} {σ : aS} {S : mw_S} (h : cR cn fy σ S) (y : Nat) : cR cn fy (a_up σ 0 10 y) (mw_uI S 0 5 (nI y)) := ⟨h.1, h.2.1, rfl, h.2.2.2.1, nR_cells (nR_0 (τ := a_up σ 0 10 y) h.2.2.2.2.1 (fun f i hf => a_up_f _ _ _ _ hf) rfl rfl rfl) (u0_cells S 5 (nI y) (by decide)), nR_cells (nR_0 (τ := a_up σ 0 10 y) h.2.2.2.2.2.1 (fun f i hf => a_up_f _ _ _ _ hf) rfl rfl rfl) (u0_cells S 5 (nI y) (by decide)), nR_cells (nR_0 (τ := a_up σ 0 10 y) h.2.2.2.2.2.2.1 (fun f i hf => a_up_f _ _ _ _ hf) rfl rfl rfl) (u0_cells S 5 (nI y) (by decide)), nR_cells (nR_0 (τ := a_up σ 0 10 y) h.2.2.2.2.2.2.2 (fun f i hf => a_up_f _ _ _ _ hf) rfl rfl rfl) (u0_cells S 5 (nI y) (by decide))⟩
theorem id69 : ∀ k, k < 69 → mw_ixf [0, 1, 2, 3, 4, 5, 6, 7, 8, 9, 10, 11, 12, 13, 14, 15, 16, 17, 18, 19, 20, 21, 22, 23, 24, 25, 26, 27, 28, 29, 30, 31, 32, 33, 34, 35, 36, 37, 38, 39, 40, 41, 42, 43, 44, 45, 46, 47, 48, 49, 50, 51, 52, 53, 54, 55, 56, 57, 58, 59, 60, 61, 62, 63, 64, 65, 66, 67, 68] k = k := by decide +kernel
theorem ps69 : ∀ k, k < 69 → mw_pos [0, 1, 2, 3, 4, 5, 6, 7, 8, 9, 10, 11, 12, 13, 14, 15, 16, 17, 18, 19, 20, 21, 22, 23, 24, 25, 26, 27, 28, 29, 30, 31, 32, 33, 34, 35, 36, 37, 38, 39, 40, 41, 42, 43, 44, 45, 46, 47, 48, 49, 50, 51, 52, 53, 54, 55, 56, 57, 58, 59, 60, 61, 62, 63, 64, 65, 66, 67, 68] k = some k := by decide +kernel
theorem cR_cells {cn : Int32} {fy : Nat} {σ : aS} {S S' : mw_S} (h : cR cn fy σ S) (c : ∀ k, k < 69 → S'.1 k = S.1 k ∧ S'.2 k = S.2 k) : cR cn fy σ S' := by
  have c0 := (c 0 (by decide)).1
  refine ⟨by rw [c0]; exact h.1, by rw [c0]; exact h.2.1, by rw [c0]; exact h.2.2.1, by rw [c0]; exact h.2.2.2.1, ?_, ?_, ?_, ?_⟩
  · exact nR_cells h.2.2.2.2.1 (fun k hk => c (mw_ixf [9, 10, 11, 12, 13, 14, 15, 16, 17, 18, 19, 20, 21, 22, 23, 2, 3, 4, 5, 6, 7, 8] k) ((by decide : ∀ k, k < 22 → mw_ixf [9, 10, 11, 12, 13, 14, 15, 16, 17, 18, 19, 20, 21, 22, 23, 2, 3, 4, 5, 6, 7, 8] k < 69) k hk))
  · exact nR_cells h.2.2.2.2.2.1 (fun k hk => c (mw_ixf [24, 25, 26, 27, 28, 29, 30, 31, 32, 33, 34, 35, 36, 37, 38, 2, 3, 4, 5, 6, 7, 8] k) ((by decide : ∀ k, k < 22 → mw_ixf [24, 25, 26, 27, 28, 29, 30, 31, 32, 33, 34, 35, 36, 37, 38, 2, 3, 4, 5, 6, 7, 8] k < 69) k hk))
  · exact nR_cells h.2.2.2.2.2.2.1 (fun k hk => c (mw_ixf [39, 40, 41, 42, 43, 44, 45, 46, 47, 48, 49, 50, 51, 52, 53, 2, 3, 4, 5, 6, 7, 8] k) ((by decide : ∀ k, k < 22 → mw_ixf [39, 40, 41, 42, 43, 44, 45, 46, 47, 48, 49, 50, 51, 52, 53, 2, 3, 4, 5, 6, 7, 8] k < 69) k hk))
  · exact nR_cells h.2.2.2.2.2.2.2 (fun k hk => c (mw_ixf [54, 55, 56, 57, 58, 59, 60, 61, 62, 63, 64, 65, 66, 67, 68, 2, 3, 4, 5, 6, 7, 8] k) ((by decide : ∀ k, k < 22 → mw_ixf [54, 55, 56, 57, 58, 59, 60, 61, 62, 63, 64, 65, 66, 67, 68, 2, 3, 4, 5, 6, 7, 8] k < 69) k hk))
theorem cR_rs {cn : Int32} {fy : Nat} {σ : aS} {S : mw_S} (h : cR cn fy σ S) : cR cn fy σ (mw_rs S [0, 1, 2, 3, 4, 5, 6, 7, 8, 9, 10, 11, 12, 13, 14, 15, 16, 17, 18, 19, 20, 21, 22, 23, 24, 25, 26, 27, 28, 29, 30, 31, 32, 33, 34, 35, 36, 37, 38, 39, 40, 41, 42, 43, 44, 45, 46, 47, 48, 49, 50, 51, 52, 53, 54, 55, 56, 57, 58, 59, 60, 61, 62, 63, 64, 65, 66, 67, 68]) := cR_cells h (fun k hk => by
  show S.1 (mw_ixf _ k) = _ ∧ S.2 (mw_ixf _ k) = _
  rw [id69 k hk]
  exact ⟨rfl, rfl⟩)
theorem cR_mg {cn : Int32} {fy : Nat} {σ : aS} {S S1 : mw_S} (h : cR cn fy σ S1) : cR cn fy σ (mw_mg S [0, 1, 2, 3, 4, 5, 6, 7, 8, 9, 10, 11, 12, 13, 14, 15, 16, 17, 18, 19, 20, 21, 22, 23, 24, 25, 26, 27, 28, 29, 30, 31, 32, 33, 34, 35, 36, 37, 38, 39, 40, 41, 42, 43, 44, 45, 46, 47, 48, 49, 50, 51, 52, 53, 54, 55, 56, 57, 58, 59, 60, 61, 62, 63, 64, 65, 66, 67, 68] S1) := cR_cells h (fun k hk => by
  unfold mw_mg
  dsimp only
  rw [ps69 k hk]
  exact ⟨rfl, rfl⟩)
set_option maxHeartbeats 4000000 in
set_option maxRecDepth 100000 in
theorem m_Wl_deliver_1 (l : Launch) (D : va_G) (cA : Nat → ClassId) (cn : Int32) (σ : aS) (fy : Nat) (x1 : Int32) (S : mw_S) (h : cR cn fy σ S) (hm : σ.1 0 12 ≤ 2240) (hno : ¬ ∃ k, k < σ.1 0 12 ∧ x1 = nI k) : mw_M true l lw_tbl y_Wl_deliver b_Wl_deliver 2 (some .boolean) { frames := 6, cells := 0, slots := 0, locals := 148 } D vCl cA sh_Wl 69 [.inr (.inr 0), .inl x1] (S) (mw_Pi (fun z S' => z = nI 0 ∧ cR cn fy σ S')) := by
  refine mw_M_of (by decide) (Nat.le_of_ble_eq_true rfl) ?_
  intro p e s m args below meth c A ad C hR
  refine mw_aload_n C 0 d_Wl_deliver_0 rfl rfl ?_
  refine mw_getr C f_Wl_34 d_Wl_deliver_1 (by decide) rfl rfl ?_
  refine mw_iload_n C 1 d_Wl_deliver_4 rfl rfl ?_
  refine mw_run0i C ix_Ma_Wl (mw_invV C (kk := 0) (m_Ma_has l D cA x1 _ (σ.1 0 12) (by omega) h.2.2.2.2.1.mc) ix_Ma_Wl kb_Wl_95 wm_Ma_has wv_Ma_has (by decide) rfl rfl d_Wl_deliver_5 rfl rfl (Nat.le_of_ble_eq_true rfl) rfl rfl ⟨by decide, by decide⟩ ⟨Nat.zero_le _, Nat.zero_le _⟩) (fun x5 e5 => ?_)
  rcases e5 with ⟨rfl, hk⟩ | ⟨rfl, hk⟩
  · exact absurd hk hno
  ·
    refine mw_if_neN C 13 d_Wl_deliver_8 (by decide) (by omega) (fun h8 => ?_) (fun h8 => ?_)
    · exfalso; omega
    ·
      refine mw_iconst C (v := nI 0) d_Wl_deliver_11 (by decide) ?_
      refine mw_zret C hR d_Wl_deliver_12 (by decide) ?_
      exact ⟨rfl, h⟩
set_option maxHeartbeats 4000000 in
set_option maxRecDepth 100000 in
theorem m_Wl_deliver_0 (l : Launch) (D : va_G) (cA : Nat → ClassId) (cn : Int32) (σ : aS) (fy B k : Nat) (S : mw_S) (h : cR cn fy σ S) (hJ : aJ fy B σ) (hB : B ≤ 2240) (hk : k < σ.1 0 12) : mw_M true l lw_tbl y_Wl_deliver b_Wl_deliver 2 (some .boolean) { frames := 6, cells := 0, slots := 0, locals := 148 } D vCl cA sh_Wl 69 [.inr (.inr 0), .inl (nI k)] (S) (mw_Pi (fun z S' => z = nI 1 ∧ cR cn fy (a_comes cn fy σ k) S')) := by
  refine mw_M_of (by decide) (Nat.le_of_ble_eq_true rfl) ?_
  intro p e s m args below meth c A ad C hR
  have hm := hJ.1.m
  refine mw_aload_n C 0 d_Wl_deliver_0 rfl rfl ?_
  refine mw_getr C f_Wl_34 d_Wl_deliver_1 (by decide) rfl rfl ?_
  refine mw_iload_n C 1 d_Wl_deliver_4 rfl rfl ?_
  refine mw_run0i C ix_Ma_Wl (mw_invV C (kk := 0) (m_Ma_has l D cA (nI k) _ (σ.1 0 12) (by omega) h.2.2.2.2.1.mc) ix_Ma_Wl kb_Wl_95 wm_Ma_has wv_Ma_has (by decide) rfl rfl d_Wl_deliver_5 rfl rfl (Nat.le_of_ble_eq_true rfl) rfl rfl ⟨by decide, by decide⟩ ⟨Nat.zero_le _, Nat.zero_le _⟩) (fun x5 e5 => ?_)
  rcases e5 with ⟨rfl, hk2⟩ | ⟨rfl, hk2⟩
  ·
    refine mw_if_neN C 13 d_Wl_deliver_8 (by decide) (by omega) (fun h8 => ?_) (fun h8 => ?_)
    ·
      refine mw_aload_n C 0 d_Wl_deliver_13 rfl rfl ?_
      refine mw_iload_n C 1 d_Wl_deliver_14 rfl rfl ?_
      refine mw_runv C ix_Wl_Wl rfl (mw_invV C (kk := 0) (m_Wl_arrive l D cA cn σ fy B k _ (cR_rs h) hJ hB hk) ix_Wl_Wl kb_Wl_92 wm_Wl_arrive wv_Wl_arrive (by decide) rfl rfl d_Wl_deliver_15 rfl rfl (Nat.le_of_ble_eq_true rfl) rfl rfl ⟨by decide, by decide⟩ ⟨Nat.zero_le _, Nat.zero_le _⟩) (fun S15 e15 => ?_)
      refine mw_iconst C (v := nI 1) d_Wl_deliver_18 (by decide) ?_
      refine mw_zret C hR d_Wl_deliver_19 (by decide) ?_
      exact ⟨rfl, cR_mg e15⟩
    · exfalso; omega
  · exact absurd ⟨k, hk, rfl⟩ hk2
set_option maxHeartbeats 4000000 in
set_option maxRecDepth 100000 in
theorem m_Wl_run_0 (l : Launch) (D : va_G) (cA : Nat → ClassId) (cn : Int32) (σ : aS) (fy B n : Nat) (S : mw_S) (h : cR cn fy σ S) (hJ : aJ fy B σ) (hB : B ≤ 2240) (hn : n ≤ 100) : mw_M true l lw_tbl y_Wl_run b_Wl_run 3 (some .int) { frames := 6, cells := 0, slots := 0, locals := 148 } D vCl cA sh_Wl 69 [.inr (.inr 0), .inl (nI n)] (S) (mw_Pi (fun z S' => z = nI ((a_runL cn fy n σ).1 0 12) ∧ cR cn fy (a_runL cn fy n σ) S')) := by
  refine mw_M_of (by decide) (Nat.le_of_ble_eq_true rfl) ?_
  intro p e s m args below meth c A ad C hR
  have LL : ∀ (dd i : Nat) (τ : aS) (S1 : mw_S), i + dd = n → cR cn fy τ S1 → aJ fy B τ → a_runL cn fy dd τ = a_runL cn fy n σ → mw p l e { frames := 6, cells := 0, slots := 0, locals := 148 } s m args below meth c (MQ below (mw_Qc true D vCl cA ad sh_Wl 69 s.heap.size (S) (mw_Pi (fun z S' => z = nI ((a_runL cn fy n σ).1 0 12) ∧ cR cn fy (a_runL cn fy n σ) S'))) args s 0 0 A) 0 0 D vCl cA A ad sh_Wl 69 3 (22) ([(2, .inl (nI i)), (0, .inr (.inr 0)), (1, .inl (nI n))]) ([]) (S1) := by
    intro dd
    induction dd with
    | zero =>
      intro i τ S1 hi h hJ he
      refine mw_iload_n C 2 d_Wl_run_22 rfl rfl ?_
      refine mw_iload_n C 1 d_Wl_run_23 rfl rfl ?_
      refine mw_icmp_geN C 77 d_Wl_run_24 (by decide) (by omega) (by omega) (fun h24 => ?_) (fun h24 => ?_)
      ·
        refine mw_aload_n C 0 d_Wl_run_77 rfl rfl ?_
        refine mw_getr C f_Wl_34 d_Wl_run_78 (by decide) rfl rfl ?_
        refine mw_geti C f_Wl_90 d_Wl_run_81 (by decide) rfl rfl ?_
        refine mw_eqi (show _ = nI (τ.1 0 12) from h.2.2.2.2.1.mc) ?_
        refine mw_iret C hR d_Wl_run_84 ?_
        rw [← he]
        exact ⟨rfl, h⟩
      · exfalso; omega
    | succ dd ih =>
      intro i τ S1 hi h hJ he
      have hm := hJ.1.m
      refine mw_iload_n C 2 d_Wl_run_22 rfl rfl ?_
      refine mw_iload_n C 1 d_Wl_run_23 rfl rfl ?_
      refine mw_icmp_geN C 77 d_Wl_run_24 (by decide) (by omega) (by omega) (fun h24 => ?_) (fun h24 => ?_)
      · exfalso; omega
      ·
        refine mw_aload_n C 0 d_Wl_run_27 rfl rfl ?_
        refine mw_getr C f_Wl_34 d_Wl_run_28 (by decide) rfl rfl ?_
        refine mw_geti C f_Wl_90 d_Wl_run_31 (by decide) rfl rfl ?_
        refine mw_eqi (show _ = nI (τ.1 0 12) from h.2.2.2.2.1.mc) ?_
        refine mw_if_leN C 77 d_Wl_run_34 (by decide) (by omega) (fun h34 => ?_) (fun h34 => ?_)
        ·
          refine mw_aload_n C 0 d_Wl_run_77 rfl rfl ?_
          refine mw_getr C f_Wl_34 d_Wl_run_78 (by decide) rfl rfl ?_
          refine mw_geti C f_Wl_90 d_Wl_run_81 (by decide) rfl rfl ?_
          refine mw_eqi (show _ = nI (τ.1 0 12) from h.2.2.2.2.1.mc) ?_
          refine mw_iret C hR d_Wl_run_84 ?_
          rw [← he, a_runL, if_pos (by omega)]
          exact ⟨rfl, h⟩
        ·
          have hlt : a_pick (a_next τ.2.2) (τ.1 0 12) < τ.1 0 12 := Nat.mod_lt _ (by omega)
          have hu : (a_next τ.2.2).toBitVec.toNat < 2 ^ 32 := (a_next τ.2.2).toBitVec.isLt
          refine mw_aload_n C 0 d_Wl_run_37 rfl rfl ?_
          refine mw_aload_n C 0 d_Wl_run_38 rfl rfl ?_
          refine mw_geti C f_Wl_42 d_Wl_run_39 (by decide) rfl rfl ?_
          refine mw_eqi h.2.1 ?_
          refine mw_ldc C kc_Wl_91 d_Wl_run_42 ?_
          refine mw_imul C d_Wl_run_44 ?_
          refine mw_sipush C (v := nI 12345) d_Wl_run_45 (by decide) ?_
          refine mw_iadd C d_Wl_run_48 ?_
          refine mw_eqi (show _ = a_next τ.2.2 from rfl) ?_
          refine mw_puti C rfl f_Wl_42 p_Wl_4 d_Wl_run_49 (by decide) rfl rfl ?_
          refine mw_aload_n C 0 d_Wl_run_52 rfl rfl ?_
          refine mw_aload_n C 0 d_Wl_run_53 rfl rfl ?_
          refine mw_geti C f_Wl_42 d_Wl_run_54 (by decide) rfl rfl ?_
          refine mw_eqi (show _ = a_next τ.2.2 from rfl) ?_
          refine mw_bipush C (v := nI 16) d_Wl_run_57 (by decide) ?_
          refine mw_iushr C d_Wl_run_59 ?_
          refine mw_eqi (show _ = nI ((a_next τ.2.2).toBitVec.toNat / 2 ^ 16) from (nI_self _).trans (by rw [pk_ushr _ (nI 16) 16 (s_u 16 (by decide))])) ?_
          refine mw_aload_n C 0 d_Wl_run_60 rfl rfl ?_
          refine mw_getr C f_Wl_34 d_Wl_run_61 (by decide) rfl rfl ?_
          refine mw_geti C f_Wl_90 d_Wl_run_64 (by decide) rfl rfl ?_
          refine mw_eqi (show _ = nI (τ.1 0 12) from h.2.2.2.2.1.mc) ?_
          refine mw_iremN C d_Wl_run_67 (by omega) (by omega) (by omega) ?_
          refine mw_runv C ix_Wl_Wl rfl (mw_invV C (kk := 0) (m_Wl_arrive l D cA cn (a_dr τ (a_next τ.2.2)) fy B (a_pick (a_next τ.2.2) (τ.1 0 12)) _ (cR_rs (cR_dr h (a_next τ.2.2))) (aJ_dr hJ _) hB hlt) ix_Wl_Wl kb_Wl_92 wm_Wl_arrive wv_Wl_arrive (by decide) rfl rfl d_Wl_run_68 rfl rfl (Nat.le_of_ble_eq_true rfl) rfl rfl ⟨by decide, by decide⟩ ⟨Nat.zero_le _, Nat.zero_le _⟩) (fun S68 e68 => ?_)
          refine mw_iincN C d_Wl_run_71 rfl (by decide) ?_
          refine mw_goto C 22 d_Wl_run_74 (by decide) ?_
          refine mw_to _ (by exact And.intro rfl (And.intro rfl (And.intro rfl (trivial)))) (ih (i + 1) _ _ (by omega) (cR_mg e68) (aJ_comes (aJ_dr hJ _) cn hlt) ?_)
          rw [← he, a_runL, if_neg (by omega)]
  refine mw_iload_n C 1 d_Wl_run_0 rfl rfl ?_
  refine mw_if_ltN C 10 d_Wl_run_1 (by decide) (by omega) ?_
  refine mw_iload_n C 1 d_Wl_run_4 rfl rfl ?_
  refine mw_bipush C (v := nI 100) d_Wl_run_5 (by decide) ?_
  refine mw_icmp_leN C 20 d_Wl_run_7 (by decide) (by omega) (by omega) (fun h7 => ?_) (fun h7 => ?_)
  ·
    refine mw_iconst C (v := nI 0) d_Wl_run_20 (by decide) ?_
    refine mw_istore_n C 2 d_Wl_run_21 rfl (by decide) ?_
    exact mw_to _ (by exact And.intro rfl (And.intro rfl (And.intro rfl (trivial)))) (LL n 0 σ S (Nat.zero_add _) h hJ rfl)
  · exfalso; omega
set_option maxHeartbeats 4000000 in
set_option maxRecDepth 100000 in
theorem m_Wl_begin_1 (l : Launch) (D : va_G) (cA : Nat → ClassId) (cn : Int32) (σ : aS) (fy : Nat) (S : mw_S) (h : cR cn fy σ S) (hb : σ.1 0 4 = 1) : mw_M true l lw_tbl y_Wl_begin b_Wl_begin 2 (some .boolean) { frames := 5, cells := 0, slots := 0, locals := 123 } D vCl cA sh_Wl 69 [.inr (.inr 0)] (S) (mw_Pi (fun z S' => z = nI 0 ∧ cR cn fy σ S')) := by
  refine mw_M_of (by decide) (Nat.le_of_ble_eq_true rfl) ?_
  intro p e s m args below meth c A ad C hR
  refine mw_aload_n C 0 d_Wl_begin_0 rfl rfl ?_
  refine mw_geti C f_Wl_81 d_Wl_begin_1 (by decide) rfl rfl ?_
  refine mw_eqi (show _ = nI 1 from by rw [h.2.2.2.1, hb]) ?_
  refine mw_if_eqN C 9 d_Wl_begin_4 (by decide) (by omega) (fun h4 => ?_) (fun h4 => ?_)
  · exfalso; omega
  ·
    refine mw_iconst C (v := nI 0) d_Wl_begin_7 (by decide) ?_
    refine mw_zret C hR d_Wl_begin_8 (by decide) ?_
    exact ⟨rfl, h⟩
theorem aJ_begL {fy B : Nat} {σ : aS} (h : aJ fy B σ) (cn : Int32) : ∀ n, n ≤ 4 → aJ fy B (a_begL cn fy n σ)
  | 0, _ => h
  | n + 1, hn => by
    rw [a_begL]
    split
    · exact aJ_begL h cn n (by omega)
    · exact aJ_goOn (aJ_begL h cn n (by omega)) cn (by omega)
set_option maxHeartbeats 4000000 in
set_option maxRecDepth 100000 in
theorem m_Wl_begin_0 (l : Launch) (D : va_G) (cA : Nat → ClassId) (cn : Int32) (σ : aS) (fy B : Nat) (S : mw_S) (h : cR cn fy σ S) (hJ : aJ fy B σ) (hB : B ≤ 2240) (hb : σ.1 0 4 = 0) : mw_M true l lw_tbl y_Wl_begin b_Wl_begin 2 (some .boolean) { frames := 5, cells := 0, slots := 0, locals := 123 } D vCl cA sh_Wl 69 [.inr (.inr 0)] (S) (mw_Pi (fun z S' => z = nI 1 ∧ cR cn fy (a_begL cn fy 4 (a_up σ 0 4 1)) S')) := by
  refine mw_M_of (by decide) (Nat.le_of_ble_eq_true rfl) ?_
  intro p e s m args below meth c A ad C hR
  have hJ1 := aJ_4 hJ
  have LL : ∀ (dd i : Nat) (S1 : mw_S), i + dd = 4 → cR cn fy (a_begL cn fy i (a_up σ 0 4 1)) S1 → mw p l e { frames := 5, cells := 0, slots := 0, locals := 123 } s m args below meth c (MQ below (mw_Qc true D vCl cA ad sh_Wl 69 s.heap.size (S) (mw_Pi (fun z S' => z = nI 1 ∧ cR cn fy (a_begL cn fy 4 (a_up σ 0 4 1)) S'))) args s 0 0 A) 0 0 D vCl cA A ad sh_Wl 69 2 (16) ([(1, .inl (nI i)), (0, .inr (.inr 0))]) ([]) (S1) := by
    intro dd
    induction dd with
    | zero =>
      intro i S1 hi h
      obtain rfl : i = 4 := by omega
      refine mw_iload_n C 1 d_Wl_begin_16 rfl rfl ?_
      refine mw_iconst C (v := nI 4) d_Wl_begin_17 (by decide) ?_
      refine mw_icmp_geN C 44 d_Wl_begin_18 (by decide) (by omega) (by omega) (fun h18 => ?_) (fun h18 => ?_)
      ·
        refine mw_iconst C (v := nI 1) d_Wl_begin_44 (by decide) ?_
        refine mw_zret C hR d_Wl_begin_45 (by decide) ?_
        exact ⟨rfl, h⟩
      · exfalso; omega
    | succ dd ih =>
      intro i S1 hi h
      have hJi := aJ_begL hJ1 cn i (by omega)
      refine mw_iload_n C 1 d_Wl_begin_16 rfl rfl ?_
      refine mw_iconst C (v := nI 4) d_Wl_begin_17 (by decide) ?_
      refine mw_icmp_geN C 44 d_Wl_begin_18 (by decide) (by omega) (by omega) (fun h18 => ?_) (fun h18 => ?_)
      · exfalso; omega
      ·
        refine mw_aload_n C 0 d_Wl_begin_21 rfl rfl ?_
        refine mw_iload_n C 1 d_Wl_begin_22 rfl rfl ?_
        refine mw_run0i C ix_Wl_Wl (mw_invV C (kk := 0) (m_Wl_isActive l D cA (nI i) _) ix_Wl_Wl kb_Wl_45 wm_Wl_isActive wv_Wl_isActive (by decide) rfl rfl d_Wl_begin_23 rfl rfl (Nat.le_of_ble_eq_true rfl) rfl rfl ⟨by decide, by decide⟩ ⟨Nat.zero_le _, Nat.zero_le _⟩) (fun x23 e23 => ?_)
        have hsl : (mw_rs S1 [0, 1, 2, 3, 4, 5, 6, 7, 8, 9, 10, 11, 12, 13, 14, 15, 16, 17, 18, 19, 20, 21, 22, 23, 24, 25, 26, 27, 28, 29, 30, 31, 32, 33, 34, 35, 36, 37, 38, 39, 40, 41, 42, 43, 44, 45, 46, 47, 48, 49, 50, 51, 52, 53, 54, 55, 56, 57, 58, 59, 60, 61, 62, 63, 64, 65, 66, 67, 68]).1 0 0 = slv fy := h.1
        rw [hsl] at e23
        rcases e23 with ⟨rfl, k0, hk0, ek0, hne⟩ | ⟨rfl, hno⟩
        ·
          have hie : ¬ i = fy := fun e => hne ((slv_eq (by omega)).mpr e)
          refine mw_if_eqN C 38 d_Wl_begin_26 (by decide) (by omega) (fun h26 => ?_) (fun h26 => ?_)
          · exfalso; omega
          ·
            have hi4 : i = 0 ∨ i = 1 ∨ i = 2 ∨ i = 3 := by omega
            rcases hi4 with rfl | rfl | rfl | rfl
            ·
              refine mw_aload_n C 0 d_Wl_begin_29 rfl rfl ?_
              refine mw_getr C f_Wl_38 d_Wl_begin_30 (by decide) rfl rfl ?_
              refine mw_iload_n C 1 d_Wl_begin_33 rfl rfl ?_
              refine mw_aaldN C d_Wl_begin_34 (by decide) rfl (by omega) (by decide) rfl ?_
              refine mw_runv C ix_No0_Wl rfl (mw_invV C (kk := 0) (m_No_goOn l D cA cn _ fy B 0 _ (h.2.2.2.2.1) hJi.1 (hJi.2.2 0 (by decide)) (by decide) hB) ix_No0_Wl kb_Wl_85 wm_No_goOn wv_No_goOn (by decide) rfl rfl d_Wl_begin_35 rfl rfl (Nat.le_of_ble_eq_true rfl) rfl rfl ⟨by decide, by decide⟩ ⟨Nat.zero_le _, Nat.zero_le _⟩) (fun S35 e35 => ?_)
              refine mw_iincN C d_Wl_begin_38 rfl (by decide) ?_
              refine mw_goto C 16 d_Wl_begin_41 (by decide) ?_
              refine mw_to _ (by exact And.intro rfl (And.intro rfl (trivial))) (ih (0 + 1) _ (by omega) ?_)
              rw [a_begL, if_neg hie]
              exact cR_step0 h hJi (ag_goOn hJi.1 cn (by decide)) e35
            ·
              refine mw_aload_n C 0 d_Wl_begin_29 rfl rfl ?_
              refine mw_getr C f_Wl_38 d_Wl_begin_30 (by decide) rfl rfl ?_
              refine mw_iload_n C 1 d_Wl_begin_33 rfl rfl ?_
              refine mw_aaldN C d_Wl_begin_34 (by decide) rfl (by omega) (by decide) rfl ?_
              refine mw_runv C ix_No1_Wl rfl (mw_invV C (kk := 0) (m_No_goOn l D cA cn _ fy B 1 _ (h.2.2.2.2.2.1) hJi.1 (hJi.2.2 1 (by decide)) (by decide) hB) ix_No1_Wl kb_Wl_85 wm_No_goOn wv_No_goOn (by decide) rfl rfl d_Wl_begin_35 rfl rfl (Nat.le_of_ble_eq_true rfl) rfl rfl ⟨by decide, by decide⟩ ⟨Nat.zero_le _, Nat.zero_le _⟩) (fun S35 e35 => ?_)
              refine mw_iincN C d_Wl_begin_38 rfl (by decide) ?_
              refine mw_goto C 16 d_Wl_begin_41 (by decide) ?_
              refine mw_to _ (by exact And.intro rfl (And.intro rfl (trivial))) (ih (1 + 1) _ (by omega) ?_)
              rw [a_begL, if_neg hie]
              exact cR_step1 h hJi (ag_goOn hJi.1 cn (by decide)) e35
            ·
              refine mw_aload_n C 0 d_Wl_begin_29 rfl rfl ?_
              refine mw_getr C f_Wl_38 d_Wl_begin_30 (by decide) rfl rfl ?_
              refine mw_iload_n C 1 d_Wl_begin_33 rfl rfl ?_
              refine mw_aaldN C d_Wl_begin_34 (by decide) rfl (by omega) (by decide) rfl ?_
              refine mw_runv C ix_No2_Wl rfl (mw_invV C (kk := 0) (m_No_goOn l D cA cn _ fy B 2 _ (h.2.2.2.2.2.2.1) hJi.1 (hJi.2.2 2 (by decide)) (by decide) hB) ix_No2_Wl kb_Wl_85 wm_No_goOn wv_No_goOn (by decide) rfl rfl d_Wl_begin_35 rfl rfl (Nat.le_of_ble_eq_true rfl) rfl rfl ⟨by decide, by decide⟩ ⟨Nat.zero_le _, Nat.zero_le _⟩) (fun S35 e35 => ?_)
              refine mw_iincN C d_Wl_begin_38 rfl (by decide) ?_
              refine mw_goto C 16 d_Wl_begin_41 (by decide) ?_
              refine mw_to _ (by exact And.intro rfl (And.intro rfl (trivial))) (ih (2 + 1) _ (by omega) ?_)
              rw [a_begL, if_neg hie]
              exact cR_step2 h hJi (ag_goOn hJi.1 cn (by decide)) e35
            ·
              refine mw_aload_n C 0 d_Wl_begin_29 rfl rfl ?_
              refine mw_getr C f_Wl_38 d_Wl_begin_30 (by decide) rfl rfl ?_
              refine mw_iload_n C 1 d_Wl_begin_33 rfl rfl ?_
              refine mw_aaldN C d_Wl_begin_34 (by decide) rfl (by omega) (by decide) rfl ?_
              refine mw_runv C ix_No3_Wl rfl (mw_invV C (kk := 0) (m_No_goOn l D cA cn _ fy B 3 _ (h.2.2.2.2.2.2.2) hJi.1 (hJi.2.2 3 (by decide)) (by decide) hB) ix_No3_Wl kb_Wl_85 wm_No_goOn wv_No_goOn (by decide) rfl rfl d_Wl_begin_35 rfl rfl (Nat.le_of_ble_eq_true rfl) rfl rfl ⟨by decide, by decide⟩ ⟨Nat.zero_le _, Nat.zero_le _⟩) (fun S35 e35 => ?_)
              refine mw_iincN C d_Wl_begin_38 rfl (by decide) ?_
              refine mw_goto C 16 d_Wl_begin_41 (by decide) ?_
              refine mw_to _ (by exact And.intro rfl (And.intro rfl (trivial))) (ih (3 + 1) _ (by omega) ?_)
              rw [a_begL, if_neg hie]
              exact cR_step3 h hJi (ag_goOn hJi.1 cn (by decide)) e35
        ·
          have hie : i = fy := by
            by_cases e : i = fy
            · exact e
            · exact absurd ⟨i, by omega, rfl, fun e2 => e ((slv_eq (by omega)).mp e2)⟩ hno
          refine mw_if_eqN C 38 d_Wl_begin_26 (by decide) (by omega) (fun h26 => ?_) (fun h26 => ?_)
          ·
            refine mw_iincN C d_Wl_begin_38 rfl (by decide) ?_
            refine mw_goto C 16 d_Wl_begin_41 (by decide) ?_
            refine mw_to _ (by exact And.intro rfl (And.intro rfl (trivial))) (ih (i + 1) _ (by omega) ?_)
            rw [a_begL, if_pos hie]
            exact h
          · exfalso; omega
  refine mw_aload_n C 0 d_Wl_begin_0 rfl rfl ?_
  refine mw_geti C f_Wl_81 d_Wl_begin_1 (by decide) rfl rfl ?_
  refine mw_eqi (show _ = nI 0 from by rw [h.2.2.2.1, hb]) ?_
  refine mw_if_eqN C 9 d_Wl_begin_4 (by decide) (by omega) (fun h4 => ?_) (fun h4 => ?_)
  ·
    refine mw_aload_n C 0 d_Wl_begin_9 rfl rfl ?_
    refine mw_iconst C (v := nI 1) d_Wl_begin_10 (by decide) ?_
    refine mw_putz C rfl f_Wl_81 p_Wl_6 d_Wl_begin_11 (by decide) rfl rfl (by decide) (by decide) ?_
    refine mw_iconst C (v := nI 0) d_Wl_begin_14 (by decide) ?_
    refine mw_istore_n C 1 d_Wl_begin_15 rfl (by decide) ?_
    exact mw_to _ (by exact And.intro rfl (And.intro rfl (trivial))) (LL 4 0 _ rfl (cR_4 h))
  · exfalso; omega
