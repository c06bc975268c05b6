/-! the law's world; what stays of one side over the other's steps -/
def sh_La : Nat → mw_H := fun k => [.inr (7, [.inl 0, .inr 1, .inr 6, .inr 8, .inl 0, .inl 0, .inl 0]), .inr (5, [.inr 2, .inr 3, .inr 4, .inr 5, .inl 0]), .inl (0, 73, .inl 0), .inl (0, 73, .inl 0), .inl (1, 73, .inl 1), .inl (0, 73, .inl 0), .inr (2, [.inl 0, .inr 7, .inl 0]), .inl (0, 2240, .inl 0), .inl (3, 4, .inr [9, 24, 39, 54]), .inr (3, [.inl 0, .inl 0, .inr 1, .inr 6, .inr 20, .inr 10, .inr 13, .inr 15, .inr 17, .inr 19, .inl 1, .inl 1, .inl 0, .inl 0, .inl 0]), .inr (0, [.inr 11, .inr 12, .inl 1, .inl 0]), .inl (0, 48, .inl 0), .inl (0, 4, .inl 0), .inr (4, [.inr 14, .inl 0]), .inl (0, 12, .inl 0), .inr (6, [.inr 16]), .inl (0, 192, .inl 0), .inr (6, [.inr 18]), .inl (0, 192, .inl 0), .inl (0, 3, .inl 0), .inr (1, [.inr 1, .inr 21, .inr 22, .inr 23, .inl 1]), .inl (0, 48, .inl 0), .inl (1, 48, .inl 1), .inl (1, 48, .inl 1), .inr (3, [.inl 0, .inl 0, .inr 1, .inr 6, .inr 35, .inr 25, .inr 28, .inr 30, .inr 32, .inr 34, .inl 1, .inl 1, .inl 0, .inl 0, .inl 0]), .inr (0, [.inr 26, .inr 27, .inl 1, .inl 0]), .inl (0, 48, .inl 0), .inl (0, 4, .inl 0), .inr (4, [.inr 29, .inl 0]), .inl (0, 12, .inl 0), .inr (6, [.inr 31]), .inl (0, 192, .inl 0), .inr (6, [.inr 33]), .inl (0, 192, .inl 0), .inl (0, 3, .inl 0), .inr (1, [.inr 1, .inr 36, .inr 37, .inr 38, .inl 1]), .inl (0, 48, .inl 0), .inl (1, 48, .inl 1), .inl (1, 48, .inl 1), .inr (3, [.inl 0, .inl 0, .inr 1, .inr 6, .inr 50, .inr 40, .inr 43, .inr 45, .inr 47, .inr 49, .inl 1, .inl 1, .inl 0, .inl 0, .inl 0]), .inr (0, [.inr 41, .inr 42, .inl 1, .inl 0]), .inl (0, 48, .inl 0), .inl (0, 4, .inl 0), .inr (4, [.inr 44, .inl 0]), .inl (0, 12, .inl 0), .inr (6, [.inr 46]), .inl (0, 192, .inl 0), .inr (6, [.inr 48]), .inl (0, 192, .inl 0), .inl (0, 3, .inl 0), .inr (1, [.inr 1, .inr 51, .inr 52, .inr 53, .inl 1]), .inl (0, 48, .inl 0), .inl (1, 48, .inl 1), .inl (1, 48, .inl 1), .inr (3, [.inl 0, .inl 0, .inr 1, .inr 6, .inr 65, .inr 55, .inr 58, .inr 60, .inr 62, .inr 64, .inl 1, .inl 1, .inl 0, .inl 0, .inl 0]), .inr (0, [.inr 56, .inr 57, .inl 1, .inl 0]), .inl (0, 48, .inl 0), .inl (0, 4, .inl 0), .inr (4, [.inr 59, .inl 0]), .inl (0, 12, .inl 0), .inr (6, [.inr 61]), .inl (0, 192, .inl 0), .inr (6, [.inr 63]), .inl (0, 192, .inl 0), .inl (0, 3, .inl 0), .inr (1, [.inr 1, .inr 66, .inr 67, .inr 68, .inl 1]), .inl (0, 48, .inl 0), .inl (1, 48, .inl 1), .inl (1, 48, .inl 1), .inr (8, [.inl 0, .inl 0, .inl 0, .inl 0, .inl 0, .inl 0, .inr 70, .inr 71, .inr 72, .inr 73, .inl 0, .inr 74, .inl 0, .inr 75, .inr 76, .inr 77, .inr 78, .inr 79, .inr 80, .inr 81, .inr 82, .inr 83, .inr 84, .inr 85, .inr 86, .inr 87, .inr 88, .inr 89, .inr 90]), .inl (0, 80, .inl 0), .inl (0, 80, .inl 0), .inl (1, 80, .inl 1), .inl (0, 80, .inl 0), .inl (0, 2400, .inl 0), .inl (2, 192, .inl 0), .inl (2, 192, .inl 0), .inl (0, 192, .inl 0), .inl (2, 192, .inl 0), .inl (2, 192, .inl 0), .inl (0, 192, .inl 0), .inl (0, 768, .inl 0), .inl (0, 768, .inl 0), .inl (0, 4, .inl 0), .inl (2, 4, .inl 0), .inl (0, 4, .inl 0), .inl (0, 4, .inl 0), .inl (0, 16, .inl 0), .inl (0, 48, .inl 0), .inl (0, 4, .inl 0), .inl (0, 4, .inl 0), .inl (1, 1, .inl 1)].getD k (.inr (0, []))
abbrev ixM : List Nat := [69, 70, 71, 72, 73, 74, 75, 76, 77, 78, 79, 80, 81, 82, 83, 84, 85, 86, 87, 88, 89, 90]
abbrev ixH : List Nat := [0, 8, 1, 2, 3, 4, 5, 6, 7, 9, 20, 21, 22, 23, 10, 11, 12, 13, 14, 15, 16, 17, 18, 19, 24, 35, 36, 37, 38, 25, 26, 27, 28, 29, 30, 31, 32, 33, 34, 39, 50, 51, 52, 53, 40, 41, 42, 43, 44, 45, 46, 47, 48, 49, 54, 65, 66, 67, 68, 55, 56, 57, 58, 59, 60, 61, 62, 63, 64, 91]
theorem ix_W_La : mw_ix sh_Wl 69 sh_La 92 ixW := mw_ix_of (by decide +kernel)
theorem ix_M_La : mw_ix sh_Mo 22 sh_La 92 ixM := mw_ix_of (by decide +kernel)
theorem ix_H_La : mw_ix sh_He 70 sh_La 92 ixH := mw_ix_of (by decide +kernel)
theorem mR_cells {cn fv : Int32} {σ : aS} {S S' : mw_S} (h : mR cn fv σ S) (c : ∀ k, k < 22 → S'.1 k = S.1 k ∧ S'.2 k = S.2 k) : mR cn fv σ S' := by
  obtain ⟨h1, h2, h3, h4, h5, h6⟩ := h
  have c0 := (c 0 (by decide)).1
  refine ⟨by rw [c0]; exact h1, by rw [c0]; exact h2, by rw [c0]; exact h3, fun j hj => by rw [c0]; exact h4 j hj, fun f j hf => ?_, fun j => by rw [(c 3 (by decide)).2]; exact h6 j⟩
  have hf2 : f < 22 := by
    have hf' := hf
    unfold mo_ar at hf'
    simp only [Bool.and_eq_true, decide_eq_true_eq] at hf'
    omega
  rw [(c f hf2).1]
  exact h5 f j hf
theorem p_WM : ∀ k, k < 22 → mw_pos ixW (mw_ixf ixM k) = none := by decide +kernel
theorem p_HM : ∀ k, k < 22 → mw_pos ixH (mw_ixf ixM k) = none := by decide +kernel
theorem p_MM : ∀ k, k < 22 → mw_pos ixM (mw_ixf ixM k) = some k := by decide +kernel
theorem p_MW : ∀ k, k < 69 → mw_pos ixM (mw_ixf ixW k) = none := by decide +kernel
theorem p_WW : ∀ k, k < 69 → mw_pos ixW (mw_ixf ixW k) = some k := by decide +kernel
theorem p_HW : ∀ k, k < 69 → mw_pos ixH (mw_ixf ixW k) = some k := by decide +kernel
theorem e_HW : ∀ k, k < 69 → mw_ixf ixH k = mw_ixf ixW k := by decide +kernel
theorem lW_M {cn : Int32} {fy : Nat} {σ : aS} {S S2 : mw_S} (h : cR cn fy σ (mw_rs S ixW)) : cR cn fy σ (mw_rs (mw_mg S ixM S2) ixW) := cR_cells h (fun k hk => rm_none (p_MW k hk))
theorem lW_W {cn : Int32} {fy : Nat} {σ : aS} {S S1 : mw_S} (h : cR cn fy σ S1) : cR cn fy σ (mw_rs (mw_mg S ixW S1) ixW) := cR_cells h (fun k hk => rm_some (p_WW k hk))
theorem lW_H {cn : Int32} {fy : Nat} {σ : aS} {S S1 : mw_S} (h : cR cn fy σ S1) : cR cn fy σ (mw_rs (mw_mg S ixH S1) ixW) := cR_cells h (fun k hk => rm_some (p_HW k hk))
theorem lH {cn : Int32} {fy : Nat} {σ : aS} {S : mw_S} (h : cR cn fy σ (mw_rs S ixW)) : cR cn fy σ (mw_rs S ixH) := cR_cells h (fun k hk => by
  unfold mw_rs
  dsimp only
  rw [e_HW k hk]
  exact ⟨rfl, rfl⟩)
theorem lM_M {cn fv : Int32} {σ : aS} {S S2 : mw_S} (h : mR cn fv σ S2) : mR cn fv σ (mw_rs (mw_mg S ixM S2) ixM) := mR_cells h (fun k hk => rm_some (p_MM k hk))
theorem lM_W {cn fv : Int32} {σ : aS} {S S1 : mw_S} (h : mR cn fv σ (mw_rs S ixM)) : mR cn fv σ (mw_rs (mw_mg S ixW S1) ixM) := mR_cells h (fun k hk => rm_none (p_WM k hk))
theorem lM_H {cn fv : Int32} {σ : aS} {S S1 : mw_S} (h : mR cn fv σ (mw_rs S ixM)) : mR cn fv σ (mw_rs (mw_mg S ixH S1) ixM) := mR_cells h (fun k hk => rm_none (p_HM k hk))
theorem o_91 {S S1 S2 : mw_S} : (mw_mg (mw_mg S ixH S1) ixM S2).2 91 = S1.2 69 := by
  have e1 : mw_pos ixM 91 = none := by decide +kernel
  have e2 : mw_pos ixH 91 = some 69 := by decide +kernel
  unfold mw_mg
  dsimp only
  rw [e1, e2]
theorem cmp_self (x : Int64) : lg_cmp x x = 0 := by
  unfold lg_cmp
  simp
theorem comes_00 {cn : Int32} {fy B : Nat} {σ : aS} {k : Nat} (h : aJ fy B σ) (hk : k < σ.1 0 12) : (a_comes cn fy σ k).1 0 0 = σ.1 0 0 := by
  have hw := h.1.wt k hk
  have h1 := aJ_gets (fy := fy) (aJ_take h hk) hw.2.1 (by rw [a_take_0 _ _ _ (by decide)]; exact hw.2.2.1)
  have e1 : (a_gets fy (a_take σ k) (σ.1 5 k)).1 0 0 = σ.1 0 0 := (h1.2.2.2.2.1 0 (by decide) (by decide)).trans (a_take_0 σ k 0 (by decide))
  unfold a_comes a_then
  split
  · exact e1
  · exact ((ag_goOn h1.1.1 cn (Nat.mod_lt _ (by decide))).2.2.2.1 0 (by decide) (by decide)).trans e1
theorem runL_00 {cn : Int32} {fy B : Nat} : ∀ (n : Nat) {σ : aS}, aJ fy B σ → (a_runL cn fy n σ).1 0 0 = σ.1 0 0
  | 0, _, _ => rfl
  | n + 1, σ, h => by
    rw [a_runL]
    split
    · rfl
    · have hk : a_pick (a_next σ.2.2) (σ.1 0 12) < (a_dr σ (a_next σ.2.2)).1 0 12 := Nat.mod_lt _ (by show 0 < σ.1 0 12; omega)
      exact (runL_00 n (aJ_comes (aJ_dr h _) cn hk)).trans (comes_00 (aJ_dr h _) hk)
/-! the two sides side by side: for every call the same answer, the same state behind it -/
set_option maxHeartbeats 1000000 in
theorem mt_transfer (l : Launch) (htr : l.stackTraces = false) (D : va_G) (cA : Nat → ClassId) (bd : Nat) {cn fv : Int32} {σ : aS} {fy B : Nat} {S : mw_S} (hw : cR cn fy σ S) (hfy : fyR fv fy) (hJ : aJ fy B σ) (hB : B + 1 ≤ 2240) (x1 x2 x3 x4 : Int32) : ∃ (kk z : Nat) (τ : aS) (pH pM : Int32 → mw_S → Prop), kk ≤ 2 ∧ τ.1 0 0 = kk ∧ aJ fy (B + 1) τ ∧ mh_M l lw_tbl y_La_transfer b_La_transfer 7 (some .int) [(0, 14, 17, 13), (0, 14, 21, 15)] { frames := 7, cells := 1, slots := 6, locals := 107 } D vCl cA sh_He 70 [.inr (.inr 0), .inl x1, .inl x2, .inl x3, .inl x4, .inr (.inr 69)] S bd (mw_Pi pH) ∧ (∀ r S', pH r S' → r = nI kk ∧ (kk = 0 → S'.2 69 0 = (nI z).toInt64) ∧ cR cn fy τ S') ∧ (∀ S', mR cn fv σ S' → mw_M true l lw_tbl y_Mo_transfer b_Mo_transfer 5 (some .int) { frames := 2, cells := 0, slots := 0, locals := 42 } D vCl cA sh_Mo 22 [.inr (.inr 0), .inl x1, .inl x2, .inl x3, .inl x4] S' (mw_Pi pM)) ∧ (∀ r S', pM r S' → r = nI z ∧ mR cn fv τ S') := by
  by_cases hok : wActM fy x1 ∧ wIsN x2 ∧ wIsN x3 ∧ wIn 1 99 x4
  · obtain ⟨⟨k1, hk1, rfl, hne⟩, hx2, hx3, hx4⟩ := hok
    have hq := hJ.1.qd k1
    by_cases hf : σ.1 20 k1 < 12
    · obtain ⟨k2, hk2, rfl⟩ := hx2
      obtain ⟨k3, hk3, rfl⟩ := hx3
      obtain ⟨k4, hk4, hk5, rfl⟩ := hx4
      exact ⟨0, σ.1 20 k1 + 1, a_queue (a_rz σ 0) k1 (1000 * k4 + 10 * k2 + k3), _, _, by decide, rfl, aJ_le (aJ_queue (aJ_rz hJ 0) (tok_tr hk5 hk2 hk3) hf) (Nat.le_succ _), mh_La_transfer_0 l htr D cA bd cn (a_rz σ 0) fy B k1 k2 k3 k4 S (cR_rz hw 0) (aJ_rz hJ 0) hk1 hne hk2 hk3 hk4 hk5 hf, fun r S' h => ⟨h.1, fun _ => h.2.1, h.2.2⟩, fun S' h => m_Mo_transfer_0 l D cA cn fv σ fy k1 k2 k3 k4 S' h hfy hk1 hne hk2 hk3 hk4 hk5 hf, fun r S' h => h⟩
    · have hne2 : ¬ nI k1 = S.1 0 0 := by
        rw [hw.1]
        exact fun e9 => hne ((slv_eq hk1).mp e9)
      have hqc : S.1 (9 + 15 * k1 + 8) 1 = nI (σ.1 20 k1) := by
        have h4 : k1 = 0 ∨ k1 = 1 ∨ k1 = 2 ∨ k1 = 3 := by omega
        rcases h4 with rfl | rfl | rfl | rfl
        · exact hw.2.2.2.2.1.qc
        · exact hw.2.2.2.2.2.1.qc
        · exact hw.2.2.2.2.2.2.1.qc
        · exact hw.2.2.2.2.2.2.2.qc
      exact ⟨2, 0, a_rz (a_rz σ 0) 2, _, _, by decide, rfl, aJ_le (aJ_rz (aJ_rz hJ 0) 2) (Nat.le_succ _), mh_La_transfer_2 l htr D cA bd (nI k1) x2 x3 x4 S k1 (σ.1 20 k1) hk1 rfl hne2 hx2 hx3 hx4 hqc (by omega) (by omega), fun r S' h => ⟨h.1, fun h9 => absurd h9 (by decide), by rw [h.2]; exact cR_rz (cR_rz hw 0) 2⟩, fun S' h => m_Mo_transfer_2 l D cA cn fv σ fy k1 x2 x3 x4 S' h hfy hk1 hne ⟨hx2, hx3, hx4⟩ (by omega), fun r S' h => h⟩
  · exact ⟨1, 0, a_rz (a_rz σ 0) 1, _, _, by decide, rfl, aJ_le (aJ_rz (aJ_rz hJ 0) 1) (Nat.le_succ _), mh_La_transfer_1 l htr D cA bd x1 x2 x3 x4 S (fun q => hok ⟨(wAct_iff hw.1).mp q.1, q.2⟩), fun r S' h => ⟨h.1, fun h9 => absurd h9 (by decide), by rw [h.2]; exact cR_rz (cR_rz hw 0) 1⟩, fun S' h => m_Mo_transfer_1 l D cA cn fv σ fy x1 x2 x3 x4 S' h hfy hok, fun r S' h => h⟩
set_option maxHeartbeats 1000000 in
theorem mt_run (l : Launch) (htr : l.stackTraces = false) (D : va_G) (cA : Nat → ClassId) (bd : Nat) {cn fv : Int32} {σ : aS} {fy B : Nat} {S : mw_S} (hw : cR cn fy σ S) (hfy : fyR fv fy) (hJ : aJ fy B σ) (hB : B + 1 ≤ 2240) (x1 : Int32) : ∃ (kk z : Nat) (τ : aS) (pH pM : Int32 → mw_S → Prop), kk ≤ 2 ∧ τ.1 0 0 = kk ∧ aJ fy (B + 1) τ ∧ mh_M l lw_tbl y_La_run b_La_run 4 (some .int) [(0, 9, 12, 13)] { frames := 7, cells := 1, slots := 6, locals := 170 } D vCl cA sh_He 70 [.inr (.inr 0), .inl x1, .inr (.inr 69)] S bd (mw_Pi pH) ∧ (∀ r S', pH r S' → r = nI kk ∧ (kk = 0 → S'.2 69 0 = (nI z).toInt64) ∧ cR cn fy τ S') ∧ (∀ S', mR cn fv σ S' → mw_M true l lw_tbl y_Mo_run b_Mo_run 4 (some .int) { frames := 7, cells := 0, slots := 0, locals := 168 } D vCl cA sh_Mo 22 [.inr (.inr 0), .inl x1] S' (mw_Pi pM)) ∧ (∀ r S', pM r S' → r = nI z ∧ mR cn fv τ S') := by
  by_cases hok : wIn 0 100 x1
  · obtain ⟨n, -, hn, rfl⟩ := hok
    exact ⟨0, (a_runL cn fy n (a_rz σ 0)).1 0 12, a_runL cn fy n (a_rz σ 0), _, _, by decide, runL_00 n (aJ_rz hJ 0), aJ_le (aJ_runL cn n (aJ_rz hJ 0)) (Nat.le_succ _), mh_La_run_0 l htr D cA bd cn (a_rz σ 0) fy B n S (cR_rz hw 0) (aJ_rz hJ 0) (by omega) hn, fun r S' h => ⟨h.1, fun _ => h.2.1, h.2.2⟩, fun S' h => m_Mo_run_0 l D cA cn fv σ fy B n S' h hfy hJ.1 (by omega) hn, fun r S' h => h⟩
  · exact ⟨1, 0, a_rz (a_rz σ 0) 1, _, _, by decide, rfl, aJ_le (aJ_rz (aJ_rz hJ 0) 1) (Nat.le_succ _), mh_La_run_1 l htr D cA bd x1 S hok, fun r S' h => ⟨h.1, fun h9 => absurd h9 (by decide), by rw [h.2]; exact cR_rz (cR_rz hw 0) 1⟩, fun S' h => m_Mo_run_1 l D cA cn fv σ x1 S' h hok, fun r S' h => h⟩
set_option maxHeartbeats 1000000 in
theorem mt_forge (l : Launch) (htr : l.stackTraces = false) (D : va_G) (cA : Nat → ClassId) (bd : Nat) {cn fv : Int32} {σ : aS} {fy B : Nat} {S : mw_S} (hw : cR cn fy σ S) (hfy : fyR fv fy) (hJ : aJ fy B σ) (hB : B + 1 ≤ 2240) (x1 x2 : Int32) (x3 : Int64) (x4 : Int32) : ∃ (kk z : Nat) (τ : aS) (pH pM : Int32 → mw_S → Prop), kk ≤ 2 ∧ τ.1 0 0 = kk ∧ aJ fy (B + 1) τ ∧ mh_M l lw_tbl y_La_forge b_La_forge 8 (some .int) [(0, 14, 17, 13), (0, 14, 21, 15)] { frames := 7, cells := 1, slots := 6, locals := 107 } D vCl cA sh_He 70 [.inr (.inr 0), .inl x1, .inl x2, .inr (.inl x3), .inl x4, .inr (.inr 69)] S bd (mw_Pi pH) ∧ (∀ r S', pH r S' → r = nI kk ∧ (kk = 0 → S'.2 69 0 = (nI z).toInt64) ∧ cR cn fy τ S') ∧ (∀ S', mR cn fv σ S' → mw_M true l lw_tbl y_Mo_forge b_Mo_forge 7 (some .int) { frames := 2, cells := 0, slots := 0, locals := 42 } D vCl cA sh_Mo 22 [.inr (.inr 0), .inl x1, .inl x2, .inr (.inl x3), .inl x4] S' (mw_Pi pM)) ∧ (∀ r S', pM r S' → r = nI z ∧ mR cn fv τ S') := by
  have hvs := hJ.1.v72
  have hfo := hJ.1.fo
  by_cases hok : wIn 1 12 x1 ∧ wIn 0 15 x2 ∧ x3 &&& (-281474976710656) = 0 ∧ tOK x4
  · obtain ⟨⟨r, hr1, hr2, rfl⟩, ⟨k, -, hk, rfl⟩, h3, h4⟩ := hok
    have hfy4 : fy ≤ 4 := by rcases hfy with h | h <;> omega
    by_cases hg : fy < 4 ∧ σ.1 0 10 < 24
    · obtain ⟨tt, htt, htk⟩ := tok_of h4
      exact ⟨0, σ.1 0 5 + 1, a_newV (a_up (a_rz σ 0) 0 10 (σ.1 0 10 + 1)) (4 * (r - 1) + fy) k x3 tt, _, _, by decide, rfl, aJ_le (aJ_forge (aJ_rz hJ 0) x3 hg.2 (by omega) (by omega) htk) (Nat.le_succ _), mh_La_forge_0 l htr D cA bd cn (a_rz σ 0) fy B r k tt x4 x3 S (cR_rz hw 0) (aJ_rz hJ 0) hr1 hr2 hk h3 h4 htt hg.1 hg.2, fun r S' h => ⟨h.1, fun _ => h.2.1, h.2.2⟩, fun S' h => m_Mo_forge_0 l D cA cn fv σ fy r k x4 x3 S' h hfy hr1 hr2 hk h3 h4 hfo hg.1 hg.2 (by omega) tt htt, fun r S' h => h⟩
    · exact ⟨2, 0, a_rz (a_rz σ 0) 2, _, _, by decide, rfl, aJ_le (aJ_rz (aJ_rz hJ 0) 2) (Nat.le_succ _), mh_La_forge_2 l htr D cA bd (nI r) (nI k) x4 x3 S (σ.1 0 10) ⟨r, hr1, hr2, rfl⟩ ⟨k, Nat.zero_le _, hk, rfl⟩ h3 h4 hw.2.2.1 (by omega) (by rw [hw.1, slv_no hfy4]; omega), fun r S' h => ⟨h.1, fun h9 => absurd h9 (by decide), by rw [h.2]; exact cR_rz (cR_rz hw 0) 2⟩, fun S' h => m_Mo_forge_2 l D cA cn fv σ fy r k x4 x3 S' h hfy hr1 hr2 hk h3 h4 hfo (by omega), fun r S' h => h⟩
  · exact ⟨1, 0, a_rz (a_rz σ 0) 1, _, _, by decide, rfl, aJ_le (aJ_rz (aJ_rz hJ 0) 1) (Nat.le_succ _), mh_La_forge_1 l htr D cA bd x1 x2 x4 x3 S hok, fun r S' h => ⟨h.1, fun h9 => absurd h9 (by decide), by rw [h.2]; exact cR_rz (cR_rz hw 0) 1⟩, fun S' h => m_Mo_forge_1 l D cA cn fv σ x1 x2 x4 x3 S' h hok, fun r S' h => h⟩
set_option maxHeartbeats 1000000 in
theorem mt_whisper (l : Launch) (htr : l.stackTraces = false) (D : va_G) (cA : Nat → ClassId) (bd : Nat) {cn fv : Int32} {σ : aS} {fy B : Nat} {S : mw_S} (hw : cR cn fy σ S) (hfy : fyR fv fy) (hJ : aJ fy B σ) (hB : B + 1 ≤ 2240) (x1 x2 x3 : Int32) : ∃ (kk z : Nat) (τ : aS) (pH pM : Int32 → mw_S → Prop), kk ≤ 2 ∧ τ.1 0 0 = kk ∧ aJ fy (B + 1) τ ∧ mh_M l lw_tbl y_La_whisper b_La_whisper 6 (some .int) [(0, 12, 15, 13), (0, 12, 19, 15)] { frames := 7, cells := 1, slots := 6, locals := 105 } D vCl cA sh_He 70 [.inr (.inr 0), .inl x1, .inl x2, .inl x3, .inr (.inr 69)] S bd (mw_Pi pH) ∧ (∀ r S', pH r S' → r = nI kk ∧ (kk = 0 → S'.2 69 0 = (nI z).toInt64) ∧ cR cn fy τ S') ∧ (∀ S', mR cn fv σ S' → mw_M true l lw_tbl y_Mo_whisper b_Mo_whisper 4 (some .int) { frames := 3, cells := 0, slots := 0, locals := 65 } D vCl cA sh_Mo 22 [.inr (.inr 0), .inl x1, .inl x2, .inl x3] S' (mw_Pi pM)) ∧ (∀ r S', pM r S' → r = nI z ∧ mR cn fv τ S') := by
  have hvs := hJ.1.v72
  have hfo := hJ.1.fo
  have hmm := hJ.1.mm
  have hvn : S.1 2 4 = nI (σ.1 0 5) := hw.2.2.2.2.1.vn
  by_cases hok : wIn 0 2 x1 ∧ wActM fy x2 ∧ wIn 1 (σ.1 0 5) x3
  · have hfy4 : fy ≤ 4 := by rcases hfy with h | h <;> omega
    by_cases hg : fy < 4
    · obtain ⟨⟨kd, -, hkd, rfl⟩, ⟨k2, hk2, rfl, hne⟩, ⟨v, hv1, hv2, rfl⟩⟩ := hok
      exact ⟨0, σ.1 0 12 + 1, a_send fy (a_rz σ 0) kd fy k2 v, _, _, by decide, (ag_send 0 fy (a_rz σ 0) kd fy k2 v).2.2.2.1 0 (by decide) (by decide), aJ_send (aJ_rz hJ 0) hkd hg hk2 hv1 hv2, mh_La_whisper_0 l htr D cA bd cn (a_rz σ 0) fy kd k2 v S (cR_rz hw 0) hkd hk2 hne hv1 hv2 (show σ.1 0 5 < 79 by omega) hg (show σ.1 0 12 < 2240 by omega), fun r S' h => ⟨h.1, fun _ => h.2.1, h.2.2⟩, fun S' h => m_Mo_whisper_0 l D cA cn fv σ fy kd k2 v S' h hfy hkd hk2 hne hv1 hv2 (by omega) hg (by omega), fun r S' h => h⟩
    · have hok2 := hok
      obtain ⟨⟨kd, -, hkd, rfl⟩, ⟨k2, hk2, rfl, hne⟩, ⟨v, hv1, hv2, rfl⟩⟩ := hok
      exact ⟨2, 0, a_rz (a_rz σ 0) 2, _, _, by decide, rfl, aJ_le (aJ_rz (aJ_rz hJ 0) 2) (Nat.le_succ _), mh_La_whisper_2 l htr D cA bd (nI kd) (nI k2) (nI v) S (σ.1 0 5) hvn (by omega) hok2.1 ((wAct_iff hw.1).mpr hok2.2.1) hok2.2.2 (by rw [hw.1, slv_no hfy4]; omega), fun r S' h => ⟨h.1, fun h9 => absurd h9 (by decide), by rw [h.2]; exact cR_rz (cR_rz hw 0) 2⟩, fun S' h => m_Mo_whisper_2 l D cA cn fv σ fy kd k2 v S' h hfy hkd hk2 hne hv1 hv2 (by omega) (by omega), fun r S' h => h⟩
  · exact ⟨1, 0, a_rz (a_rz σ 0) 1, _, _, by decide, rfl, aJ_le (aJ_rz (aJ_rz hJ 0) 1) (Nat.le_succ _), mh_La_whisper_1 l htr D cA bd x1 x2 x3 S (σ.1 0 5) hvn (by omega) (fun q => hok ⟨q.1, (wAct_iff hw.1).mp q.2.1, q.2.2⟩), fun r S' h => ⟨h.1, fun h9 => absurd h9 (by decide), by rw [h.2]; exact cR_rz (cR_rz hw 0) 1⟩, fun S' h => m_Mo_whisper_1 l D cA cn fv σ fy x1 x2 x3 S' h hfy (by omega) hok, fun r S' h => h⟩
set_option maxHeartbeats 1000000 in
theorem mt_begin (l : Launch) (D : va_G) (cA : Nat → ClassId) {cn fv : Int32} {σ : aS} {fy B : Nat} {S : mw_S} (hw : cR cn fy σ S) (hfy : fyR fv fy) (hJ : aJ fy B σ) (hB : B + 1 ≤ 2240)  : ∃ (z : Int32) (τ : aS) (pW : Int32 → mw_S → Prop) (pM : Int32 → mw_S → Prop), aJ fy (B + 1) τ ∧ mw_M true l lw_tbl y_Wl_begin b_Wl_begin 2 (some .boolean) { frames := 5, cells := 0, slots := 0, locals := 123 } D vCl cA sh_Wl 69 [.inr (.inr 0)] S (mw_Pi pW) ∧ (∀ r S', pW r S' → r = z ∧ cR cn fy τ S') ∧ (∀ S', mR cn fv σ S' → mw_M true l lw_tbl y_Mo_begin b_Mo_begin 2 (some .boolean) { frames := 6, cells := 0, slots := 0, locals := 141 } D vCl cA sh_Mo 22 [.inr (.inr 0)] S' (mw_Pi pM)) ∧ (∀ r S', pM r S' → r = z ∧ mR cn fv τ S') := by
  have hbe := hJ.1.be
  by_cases hb : σ.1 0 4 = 0
  · exact ⟨nI 1, a_begL cn fy 4 (a_up (a_rz σ 0) 0 4 1), _, _, aJ_le (aJ_begL (aJ_4 (aJ_rz hJ 0)) cn 4 (by decide)) (Nat.le_succ _), m_Wl_begin_0 l D cA cn (a_rz σ 0) fy B S (cR_rz hw 0) (aJ_rz hJ 0) (by omega) hb, fun r S' h => h, fun S' h => m_Mo_begin_0 l D cA cn fv σ fy B S' h hfy hJ.1 (by omega) hb, fun r S' h => h⟩
  · exact ⟨nI 0, a_rz σ 0, _, _, aJ_le (aJ_rz hJ 0) (Nat.le_succ _), m_Wl_begin_1 l D cA cn (a_rz σ 0) fy S (cR_rz hw 0) (show σ.1 0 4 = 1 by omega), fun r S' h => h, fun S' h => m_Mo_begin_1 l D cA cn fv σ S' h (by omega), fun r S' h => h⟩
set_option maxHeartbeats 1000000 in
theorem mt_deliver (l : Launch) (D : va_G) (cA : Nat → ClassId) {cn fv : Int32} {σ : aS} {fy B : Nat} {S : mw_S} (hw : cR cn fy σ S) (hfy : fyR fv fy) (hJ : aJ fy B σ) (hB : B + 1 ≤ 2240) (x1 : Int32) : ∃ (z : Int32) (τ : aS) (pW : Int32 → mw_S → Prop) (pM : Int32 → mw_S → Prop), aJ fy (B + 1) τ ∧ mw_M true l lw_tbl y_Wl_deliver b_Wl_deliver 2 (some .boolean) { frames := 6, cells := 0, slots := 0, locals := 148 } D vCl cA sh_Wl 69 [.inr (.inr 0), .inl x1] S (mw_Pi pW) ∧ (∀ r S', pW r S' → r = z ∧ cR cn fy τ S') ∧ (∀ S', mR cn fv σ S' → mw_M true l lw_tbl y_Mo_deliver b_Mo_deliver 2 (some .boolean) { frames := 7, cells := 0, slots := 0, locals := 168 } D vCl cA sh_Mo 22 [.inr (.inr 0), .inl x1] S' (mw_Pi pM)) ∧ (∀ r S', pM r S' → r = z ∧ mR cn fv τ S') := by
  have hmm := hJ.1.mm
  by_cases hk : ∃ k, k < σ.1 0 12 ∧ x1 = nI k
  · obtain ⟨k, hk, rfl⟩ := hk
    exact ⟨nI 1, a_comes cn fy (a_rz σ 0) k, _, _, aJ_le (aJ_comes (aJ_rz hJ 0) cn hk) (Nat.le_succ _), m_Wl_deliver_0 l D cA cn (a_rz σ 0) fy B k S (cR_rz hw 0) (aJ_rz hJ 0) (by omega) hk, fun r S' h => h, fun S' h => m_Mo_deliver_0 l D cA cn fv σ fy B k S' h hfy hJ.1 (by omega) hk, fun r S' h => h⟩
  · exact ⟨nI 0, a_rz σ 0, _, _, aJ_le (aJ_rz hJ 0) (Nat.le_succ _), m_Wl_deliver_1 l D cA cn (a_rz σ 0) fy x1 S (cR_rz hw 0) (show σ.1 0 12 ≤ 2240 by omega) hk, fun r S' h => h, fun S' h => m_Mo_deliver_1 l D cA cn fv σ x1 S' h (by omega) (fun k hk2 _ => Nat.le_of_not_lt (fun q => hk ⟨k, q, hk2⟩)), fun r S' h => h⟩
set_option maxHeartbeats 1000000 in
theorem mt_message (l : Launch) (D : va_G) (cA : Nat → ClassId) {cn fv : Int32} {σ : aS} {fy B : Nat} {S : mw_S} (hw : cR cn fy σ S) (hfy : fyR fv fy) (hJ : aJ fy B σ) (hB : B + 1 ≤ 2240) (x1 x2 : Int32) : ∃ (z : Int32) (τ : aS) (pW : Int32 → Prop) (pM : Int32 → mw_S → Prop), aJ fy (B + 1) τ ∧ mw_M false l lw_tbl y_Wl_message b_Wl_message 4 (some .int) { frames := 1, cells := 0, slots := 0, locals := 21 } D vCl cA sh_Wl 69 [.inr (.inr 0), .inl x1, .inl x2] S (mw_Pi (fun x _ => pW x)) ∧ (∀ r, pW r → r = z) ∧ cR cn fy τ S ∧ (∀ S', mR cn fv σ S' → mw_M true l lw_tbl y_Mo_message b_Mo_message 4 (some .int) { frames := 0, cells := 0, slots := 0, locals := 0 } D vCl cA sh_Mo 22 [.inr (.inr 0), .inl x1, .inl x2] S' (mw_Pi pM)) ∧ (∀ r S', pM r S' → r = z ∧ mR cn fv τ S') := by
  have hmm := hJ.1.mm
  by_cases hok : wLt (σ.1 0 12) x1 ∧ wIn 0 3 x2
  · obtain ⟨⟨k, hk, rfl⟩, ⟨j, -, hj, rfl⟩⟩ := hok
    exact ⟨nI (a_part (σ.1 5 k) j), a_rz σ 0, _, _, aJ_le (aJ_rz hJ 0) (Nat.le_succ _), m_Wl_message_0 l D cA cn σ fy k j S hw (by omega) hk hj (hJ.1.wt k hk).1, fun r h => h, cR_rz hw 0, fun S' h => m_Mo_message_0 l D cA cn fv σ k j S' h (by omega) hk hj (hJ.1.wt k hk).1, fun r S' h => h⟩
  · exact ⟨-1, a_rz σ 0, _, _, aJ_le (aJ_rz hJ 0) (Nat.le_succ _), m_Wl_message_1 l D cA cn σ fy x1 x2 S hw (by omega) hok, fun r h => h, cR_rz hw 0, fun S' h => m_Mo_message_1 l D cA cn fv σ x1 x2 S' h (by omega) hok, fun r S' h => h⟩
set_option maxHeartbeats 1000000 in
theorem mt_vertex (l : Launch) (D : va_G) (cA : Nat → ClassId) {cn fv : Int32} {σ : aS} {fy B : Nat} {S : mw_S} (hw : cR cn fy σ S) (hfy : fyR fv fy) (hJ : aJ fy B σ) (hB : B + 1 ≤ 2240) (x1 x2 : Int32) : ∃ (z : Int32) (τ : aS) (pW : Int32 → Prop) (pM : Int32 → mw_S → Prop), aJ fy (B + 1) τ ∧ mw_M false l lw_tbl y_Wl_vertex b_Wl_vertex 3 (some .int) { frames := 1, cells := 0, slots := 0, locals := 21 } D vCl cA sh_Wl 69 [.inr (.inr 0), .inl x1, .inl x2] S (mw_Pi (fun x _ => pW x)) ∧ (∀ r, pW r → r = z) ∧ cR cn fy τ S ∧ (∀ S', mR cn fv σ S' → mw_M true l lw_tbl y_Mo_vertex b_Mo_vertex 3 (some .int) { frames := 0, cells := 0, slots := 0, locals := 0 } D vCl cA sh_Mo 22 [.inr (.inr 0), .inl x1, .inl x2] S' (mw_Pi pM)) ∧ (∀ r S', pM r S' → r = z ∧ mR cn fv τ S') := by
  have hvs := hJ.1.v72
  have hfo := hJ.1.fo
  by_cases hok : wIn 1 (σ.1 0 5) x1 ∧ wIn 0 2 x2
  · obtain ⟨⟨v, hv1, hv2, rfl⟩, ⟨j, -, hj, rfl⟩⟩ := hok
    exact ⟨nI (if j = 0 then σ.1 1 v else if j = 1 then σ.1 2 v else σ.1 4 v), a_rz σ 0, _, _, aJ_le (aJ_rz hJ 0) (Nat.le_succ _), m_Wl_vertex_0 l D cA cn σ fy v j S hw (by omega) hv1 hv2 hj, fun r h => h, cR_rz hw 0, fun S' h => m_Mo_vertex_0 l D cA cn fv σ v j S' h (by omega) hv1 hv2 hj, fun r S' h => h⟩
  · exact ⟨-1, a_rz σ 0, _, _, aJ_le (aJ_rz hJ 0) (Nat.le_succ _), m_Wl_vertex_1 l D cA cn σ fy x1 x2 S hw (by omega) hok, fun r h => h, cR_rz hw 0, fun S' h => m_Mo_vertex_1 l D cA cn fv σ x1 x2 S' h (by omega) hok, fun r S' h => h⟩
set_option maxHeartbeats 1000000 in
theorem mt_weak (l : Launch) (D : va_G) (cA : Nat → ClassId) {cn fv : Int32} {σ : aS} {fy B : Nat} {S : mw_S} (hw : cR cn fy σ S) (hfy : fyR fv fy) (hJ : aJ fy B σ) (hB : B + 1 ≤ 2240) (x1 : Int32) : ∃ (z : Int64) (τ : aS) (pW : Int64 → Prop) (pM : Int64 → mw_S → Prop), aJ fy (B + 1) τ ∧ mw_M false l lw_tbl y_Wl_weak b_Wl_weak 2 (some .long) { frames := 1, cells := 0, slots := 0, locals := 21 } D vCl cA sh_Wl 69 [.inr (.inr 0), .inl x1] S (mw_Pl (fun x _ => pW x)) ∧ (∀ r, pW r → r = z) ∧ cR cn fy τ S ∧ (∀ S', mR cn fv σ S' → mw_M true l lw_tbl y_Mo_weak b_Mo_weak 2 (some .long) { frames := 0, cells := 0, slots := 0, locals := 0 } D vCl cA sh_Mo 22 [.inr (.inr 0), .inl x1] S' (mw_Pl pM)) ∧ (∀ r S', pM r S' → r = z ∧ mR cn fv τ S') := by
  have hvs := hJ.1.v72
  have hfo := hJ.1.fo
  by_cases hok : wIn 1 (σ.1 0 5) x1
  · obtain ⟨v, hv1, hv2, rfl⟩ := hok
    exact ⟨σ.2.1 v, a_rz σ 0, _, _, aJ_le (aJ_rz hJ 0) (Nat.le_succ _), m_Wl_weak_0 l D cA cn σ fy v S hw (by omega) hv1 hv2, fun r h => h, cR_rz hw 0, fun S' h => m_Mo_weak_0 l D cA cn fv σ v S' h (by omega) hv1 hv2, fun r S' h => h⟩
  · exact ⟨-1, a_rz σ 0, _, _, aJ_le (aJ_rz hJ 0) (Nat.le_succ _), m_Wl_weak_1 l D cA cn σ fy x1 S hw (by omega) hok, fun r h => h, cR_rz hw 0, fun S' h => m_Mo_weak_1 l D cA cn fv σ x1 S' h (by omega) hok, fun r S' h => h⟩
set_option maxHeartbeats 1000000 in
theorem mt_node (l : Launch) (D : va_G) (cA : Nat → ClassId) {cn fv : Int32} {σ : aS} {fy B : Nat} {S : mw_S} (hw : cR cn fy σ S) (hfy : fyR fv fy) (hJ : aJ fy B σ) (hB : B + 1 ≤ 2240) (x1 x2 : Int32) : ∃ (z : Int32) (τ : aS) (pW : Int32 → Prop) (pM : Int32 → mw_S → Prop), aJ fy (B + 1) τ ∧ mw_M false l lw_tbl y_Wl_node b_Wl_node 4 (some .int) { frames := 1, cells := 0, slots := 0, locals := 21 } D vCl cA sh_Wl 69 [.inr (.inr 0), .inl x1, .inl x2] S (mw_Pi (fun x _ => pW x)) ∧ (∀ r, pW r → r = z) ∧ cR cn fy τ S ∧ (∀ S', mR cn fv σ S' → mw_M true l lw_tbl y_Mo_node b_Mo_node 3 (some .int) { frames := 2, cells := 0, slots := 0, locals := 41 } D vCl cA sh_Mo 22 [.inr (.inr 0), .inl x1, .inl x2] S' (mw_Pi pM)) ∧ (∀ r S', pM r S' → r = z ∧ mR cn fv τ S') := by
  by_cases hok : wIsN x1 ∧ wIn 0 7 x2
  · obtain ⟨⟨n, hn, rfl⟩, ⟨j, -, hj, rfl⟩⟩ := hok
    exact ⟨nI (if n = fy then 0 else a_node σ n j), a_rz σ 0, _, _, aJ_le (aJ_rz hJ 0) (Nat.le_succ _), m_Wl_node_0 l D cA cn σ fy n j S hw hn hj, fun r h => h, cR_rz hw 0, fun S' h => m_Mo_node_0 l D cA cn fv σ fy n j S' h hfy hn hj hJ.1.f9, fun r S' h => h⟩
  · exact ⟨-1, a_rz σ 0, _, _, aJ_le (aJ_rz hJ 0) (Nat.le_succ _), m_Wl_node_1 l D cA x1 x2 S hok, fun r h => h, cR_rz hw 0, fun S' h => m_Mo_node_1 l D cA cn fv σ x1 x2 S' h hok, fun r S' h => h⟩
set_option maxHeartbeats 1000000 in
theorem mt_graph (l : Launch) (D : va_G) (cA : Nat → ClassId) {cn fv : Int32} {σ : aS} {fy B : Nat} {S : mw_S} (hw : cR cn fy σ S) (hfy : fyR fv fy) (hJ : aJ fy B σ) (hB : B + 1 ≤ 2240) (x1 x2 : Int32) : ∃ (z : Int32) (τ : aS) (pW : Int32 → Prop) (pM : Int32 → mw_S → Prop), aJ fy (B + 1) τ ∧ mw_M false l lw_tbl y_Wl_graph b_Wl_graph 4 (some .int) { frames := 2, cells := 0, slots := 0, locals := 43 } D vCl cA sh_Wl 69 [.inr (.inr 0), .inl x1, .inl x2] S (mw_Pi (fun x _ => pW x)) ∧ (∀ r, pW r → r = z) ∧ cR cn fy τ S ∧ (∀ S', mR cn fv σ S' → mw_M true l lw_tbl y_Mo_graph b_Mo_graph 4 (some .int) { frames := 1, cells := 0, slots := 0, locals := 20 } D vCl cA sh_Mo 22 [.inr (.inr 0), .inl x1, .inl x2] S' (mw_Pi pM)) ∧ (∀ r S', pM r S' → r = z ∧ mR cn fv τ S') := by
  by_cases hok : wIsN x1 ∧ wIn 0 47 x2
  · obtain ⟨⟨n, hn, rfl⟩, ⟨q, -, hq, rfl⟩⟩ := hok
    exact ⟨if σ.1 9 (48 * n + q) = 0 then -(nI (σ.1 8 (48 * n + q))) else nI (σ.1 8 (48 * n + q)), a_rz σ 0, _, _, aJ_le (aJ_rz hJ 0) (Nat.le_succ _), m_Wl_graph_0 l D cA cn σ fy B n q S hw hJ.1 hn (by omega), fun r h => h, cR_rz hw 0, fun S' h => m_Mo_graph_0 l D cA cn fv σ n q S' h hn (by omega) (hJ.1.f9 _), fun r S' h => h⟩
  · exact ⟨nI 0, a_rz σ 0, _, _, aJ_le (aJ_rz hJ 0) (Nat.le_succ _), m_Wl_graph_1 l D cA x1 x2 S hok, fun r h => h, cR_rz hw 0, fun S' h => m_Mo_graph_1 l D cA cn fv σ x1 x2 S' h hok, fun r S' h => h⟩
set_option maxHeartbeats 1000000 in
theorem mt_ordered (l : Launch) (D : va_G) (cA : Nat → ClassId) {cn fv : Int32} {σ : aS} {fy B : Nat} {S : mw_S} (hw : cR cn fy σ S) (hfy : fyR fv fy) (hJ : aJ fy B σ) (hB : B + 1 ≤ 2240) (x1 x2 : Int32) : ∃ (z : Int32) (τ : aS) (pW : Int32 → Prop) (pM : Int32 → mw_S → Prop), aJ fy (B + 1) τ ∧ mw_M false l lw_tbl y_Wl_ordered b_Wl_ordered 3 (some .int) { frames := 1, cells := 0, slots := 0, locals := 20 } D vCl cA sh_Wl 69 [.inr (.inr 0), .inl x1, .inl x2] S (mw_Pi (fun x _ => pW x)) ∧ (∀ r, pW r → r = z) ∧ cR cn fy τ S ∧ (∀ S', mR cn fv σ S' → mw_M true l lw_tbl y_Mo_ordered b_Mo_ordered 3 (some .int) { frames := 1, cells := 0, slots := 0, locals := 20 } D vCl cA sh_Mo 22 [.inr (.inr 0), .inl x1, .inl x2] S' (mw_Pi pM)) ∧ (∀ r S', pM r S' → r = z ∧ mR cn fv τ S') := by
  have hoc : ∀ n, n < 4 → σ.1 17 n ≤ 48 := fun n hn => by have := hJ.1.oc n hn; omega
  by_cases hok : ∃ n k, n < 4 ∧ k < σ.1 17 n ∧ x1 = nI n ∧ x2 = nI k
  · obtain ⟨n, k, hn, hk, rfl, rfl⟩ := hok
    exact ⟨nI (σ.1 11 (48 * n + k)), a_rz σ 0, _, _, aJ_le (aJ_rz hJ 0) (Nat.le_succ _), m_Wl_ordered_0 l D cA cn σ fy n k S hw hn hk (hoc n hn), fun r h => h, cR_rz hw 0, fun S' h => m_Mo_ordered_0 l D cA cn fv σ n k S' h hn hk (hoc n hn), fun r S' h => h⟩
  · exact ⟨-1, a_rz σ 0, _, _, aJ_le (aJ_rz hJ 0) (Nat.le_succ _), m_Wl_ordered_1 l D cA cn σ fy x1 x2 S hw hoc hok, fun r h => h, cR_rz hw 0, fun S' h => m_Mo_ordered_1 l D cA cn fv σ x1 x2 S' h hoc hok, fun r S' h => h⟩
