/-! the law's helpers, where the call is refused -/
set_option maxHeartbeats 4000000 in
set_option maxRecDepth 100000 in
theorem mh_La_transfer_1 (l : Launch) (htr : l.stackTraces = false) (D : va_G) (cA : Nat → ClassId) (bd : Nat) (x1 x2 x3 x4 : Int32) (S : mw_S) (h : ¬ (wAct S x1 ∧ wIsN x2 ∧ wIsN x3 ∧ wIn 1 99 x4)) : mh_M l lw_tbl y_La_transfer b_La_transfer 7 (some .int) [(0, 14, 17, 13), (0, 14, 21, 15)] { frames := 7, cells := 1, slots := 6, locals := 107 } D vCl cA sh_He 70 [.inr (.inr 0), .inl x1, .inl x2, .inl x3, .inl x4, .inr (.inr 69)] (S) bd (mw_Pi (fun r S' => r = nI 1 ∧ S' = S)) := by
  refine mh_M_of (by decide) (Nat.le_of_ble_eq_true rfl) ?_
  intro p e s m args below meth c A ad C hR hE
  refine mw_aload C d_La_transfer_0 rfl ?_
  refine mw_iconst C (v := nI 0) d_La_transfer_2 (by decide) ?_
  refine mw_aload_n C 0 d_La_transfer_3 rfl rfl ?_
  refine mw_iload_n C 1 d_La_transfer_4 rfl rfl ?_
  refine mw_iload_n C 2 d_La_transfer_5 rfl rfl ?_
  refine mw_iload_n C 3 d_La_transfer_6 rfl rfl ?_
  refine mw_iload C d_La_transfer_7 rfl ?_
  refine mh_invT C (kk := 0) (ix := [0, 1, 2, 3, 4, 5, 6, 7, 8, 9, 10, 11, 12, 13, 14, 15, 16, 17, 18, 19, 20, 21, 22, 23, 24, 25, 26, 27, 28, 29, 30, 31, 32, 33, 34, 35, 36, 37, 38, 39, 40, 41, 42, 43, 44, 45, 46, 47, 48, 49, 50, 51, 52, 53, 54, 55, 56, 57, 58, 59, 60, 61, 62, 63, 64, 65, 66, 67, 68]) (np := 4) (mt_Wl_transfer_IAE l htr D cA bd x1 x2 x3 x4 _ h) ix_Wl_He wc_Wl_transfer wi_Wl (by decide +kernel) (mw_G_in 500 (by decide +kernel) rfl) wm_Wl_transfer wv_Wl_transfer (by decide) rfl rfl d_La_transfer_9 rfl rfl (Nat.le_of_ble_eq_true rfl) rfl rfl ⟨by decide, by decide⟩ (by decide) (by decide) hE.2.1.1 hE.2.2.1 hE.2.2.2 hE.1 (fun T locs g Y hg hpc => mh_goI C Y hg (by rw [hpc]; decide) (by decide) wlL_13 wca_IAE) (fun x H locs ls hP hS hl => ?_)
  refine lv_astore C.1.1 C.1.2.1 d_La_transfer_17 hl (by decide) rfl (fun ls9 hl9 => ?_)
  refine lv_iconst (v := nI 1) C.1.1 C.1.2.1 d_La_transfer_19 (by decide) ?_
  exact W.iret C.1.1 C.1.2.1 hR.1 (fun t ht _ => ⟨⟨some (.inl (nI 1)), S, rfl, ⟨nI 1, rfl, ⟨rfl, rfl⟩⟩, by rw [ht]; exact hP⟩, by have h9 := hS.F ht; rw [hR.2.2] at h9; exact h9⟩) hS.2.2 d_La_transfer_20 hR.2.1
set_option maxHeartbeats 4000000 in
set_option maxRecDepth 100000 in
theorem mh_La_transfer_2 (l : Launch) (htr : l.stackTraces = false) (D : va_G) (cA : Nat → ClassId) (bd : Nat) (x1 x2 x3 x4 : Int32) (S : mw_S) (k1 cn : Nat) (hk : k1 < 4) (he : x1 = nI k1) (hne : ¬ x1 = S.1 0 0) (h2 : wIsN x2) (h3 : wIsN x3) (h4 : wIn 1 99 x4) (hc : S.1 (9 + 15 * k1 + 8) 1 = nI cn) (hc1 : 12 ≤ cn) (hc2 : cn < 2 ^ 31) : mh_M l lw_tbl y_La_transfer b_La_transfer 7 (some .int) [(0, 14, 17, 13), (0, 14, 21, 15)] { frames := 7, cells := 1, slots := 6, locals := 107 } D vCl cA sh_He 70 [.inr (.inr 0), .inl x1, .inl x2, .inl x3, .inl x4, .inr (.inr 69)] (S) bd (mw_Pi (fun r S' => r = nI 2 ∧ S' = S)) := by
  refine mh_M_of (by decide) (Nat.le_of_ble_eq_true rfl) ?_
  intro p e s m args below meth c A ad C hR hE
  have hc9 : (mw_rs S [0, 1, 2, 3, 4, 5, 6, 7, 8, 9, 10, 11, 12, 13, 14, 15, 16, 17, 18, 19, 20, 21, 22, 23, 24, 25, 26, 27, 28, 29, 30, 31, 32, 33, 34, 35, 36, 37, 38, 39, 40, 41, 42, 43, 44, 45, 46, 47, 48, 49, 50, 51, 52, 53, 54, 55, 56, 57, 58, 59, 60, 61, 62, 63, 64, 65, 66, 67, 68]).1 (9 + 15 * k1 + 8) 1 = nI cn := by
    obtain rfl | rfl | rfl | rfl : k1 = 0 ∨ k1 = 1 ∨ k1 = 2 ∨ k1 = 3 := by omega
    all_goals exact hc
  refine mw_aload C d_La_transfer_0 rfl ?_
  refine mw_iconst C (v := nI 0) d_La_transfer_2 (by decide) ?_
  refine mw_aload_n C 0 d_La_transfer_3 rfl rfl ?_
  refine mw_iload_n C 1 d_La_transfer_4 rfl rfl ?_
  refine mw_iload_n C 2 d_La_transfer_5 rfl rfl ?_
  refine mw_iload_n C 3 d_La_transfer_6 rfl rfl ?_
  refine mw_iload C d_La_transfer_7 rfl ?_
  refine mh_invT C (kk := 0) (ix := [0, 1, 2, 3, 4, 5, 6, 7, 8, 9, 10, 11, 12, 13, 14, 15, 16, 17, 18, 19, 20, 21, 22, 23, 24, 25, 26, 27, 28, 29, 30, 31, 32, 33, 34, 35, 36, 37, 38, 39, 40, 41, 42, 43, 44, 45, 46, 47, 48, 49, 50, 51, 52, 53, 54, 55, 56, 57, 58, 59, 60, 61, 62, 63, 64, 65, 66, 67, 68]) (np := 4) (mt_Wl_transfer_ISE l htr D cA bd x1 x2 x3 x4 _ k1 cn hk he hne h2 h3 h4 hc9 hc1 hc2) ix_Wl_He wc_Wl_transfer wi_Wl (by decide +kernel) (mw_G_in 500 (by decide +kernel) rfl) wm_Wl_transfer wv_Wl_transfer (by decide) rfl rfl d_La_transfer_9 rfl rfl (Nat.le_of_ble_eq_true rfl) rfl rfl ⟨by decide, by decide⟩ (by decide) (by decide) hE.2.1.1 hE.2.2.1 hE.2.2.2 hE.1 (fun T locs g Y hg hpc => mh_goS C Y hE.2.1.2 hg (by rw [hpc]; decide) (by decide) (by rw [hpc]; decide) (by decide) wlL_13 wlL_15 wca_ISE) (fun x H locs ls hP hS hl => ?_)
  refine lv_astore C.1.1 C.1.2.1 d_La_transfer_21 hl (by decide) rfl (fun ls9 hl9 => ?_)
  refine lv_iconst (v := nI 2) C.1.1 C.1.2.1 d_La_transfer_23 (by decide) ?_
  exact W.iret C.1.1 C.1.2.1 hR.1 (fun t ht _ => ⟨⟨some (.inl (nI 2)), S, rfl, ⟨nI 2, rfl, ⟨rfl, rfl⟩⟩, by rw [ht]; exact hP⟩, by have h9 := hS.F ht; rw [hR.2.2] at h9; exact h9⟩) hS.2.2 d_La_transfer_24 hR.2.1
set_option maxHeartbeats 4000000 in
set_option maxRecDepth 100000 in
theorem mh_La_run_1 (l : Launch) (htr : l.stackTraces = false) (D : va_G) (cA : Nat → ClassId) (bd : Nat) (x1 : Int32) (S : mw_S) (h : ¬ wIn 0 100 x1) : mh_M l lw_tbl y_La_run b_La_run 4 (some .int) [(0, 9, 12, 13)] { frames := 7, cells := 1, slots := 6, locals := 170 } D vCl cA sh_He 70 [.inr (.inr 0), .inl x1, .inr (.inr 69)] (S) bd (mw_Pi (fun r S' => r = nI 1 ∧ S' = S)) := by
  refine mh_M_of (by decide) (Nat.le_of_ble_eq_true rfl) ?_
  intro p e s m args below meth c A ad C hR hE
  refine mw_aload_n C 2 d_La_run_0 rfl rfl ?_
  refine mw_iconst C (v := nI 0) d_La_run_1 (by decide) ?_
  refine mw_aload_n C 0 d_La_run_2 rfl rfl ?_
  refine mw_iload_n C 1 d_La_run_3 rfl rfl ?_
  refine mh_invT C (kk := 0) (ix := [0, 1, 2, 3, 4, 5, 6, 7, 8, 9, 10, 11, 12, 13, 14, 15, 16, 17, 18, 19, 20, 21, 22, 23, 24, 25, 26, 27, 28, 29, 30, 31, 32, 33, 34, 35, 36, 37, 38, 39, 40, 41, 42, 43, 44, 45, 46, 47, 48, 49, 50, 51, 52, 53, 54, 55, 56, 57, 58, 59, 60, 61, 62, 63, 64, 65, 66, 67, 68]) (np := 1) (mt_Wl_run_IAE l htr D cA bd x1 _ h) ix_Wl_He wc_Wl_run wi_Wl (by decide +kernel) (mw_G_in 602 (by decide +kernel) rfl) wm_Wl_run wv_Wl_run (by decide) rfl rfl d_La_run_4 rfl rfl (Nat.le_of_ble_eq_true rfl) rfl rfl ⟨by decide, by decide⟩ (by decide) (by decide) hE.2.1.1 hE.2.2.1 hE.2.2.2 hE.1 (fun T locs g Y hg hpc => mh_goI C Y hg (by rw [hpc]; decide) (by decide) wlL_13 wca_IAE) (fun x H locs ls hP hS hl => ?_)
  refine lv_astore_n C.1.1 C.1.2.1 d_La_run_12 (i := 3) rfl hl (by decide) rfl (fun ls9 hl9 => ?_)
  refine lv_iconst (v := nI 1) C.1.1 C.1.2.1 d_La_run_13 (by decide) ?_
  exact W.iret C.1.1 C.1.2.1 hR.1 (fun t ht _ => ⟨⟨some (.inl (nI 1)), S, rfl, ⟨nI 1, rfl, ⟨rfl, rfl⟩⟩, by rw [ht]; exact hP⟩, by have h9 := hS.F ht; rw [hR.2.2] at h9; exact h9⟩) hS.2.2 d_La_run_14 hR.2.1
set_option maxHeartbeats 4000000 in
set_option maxRecDepth 100000 in
theorem mh_La_forge_1 (l : Launch) (htr : l.stackTraces = false) (D : va_G) (cA : Nat → ClassId) (bd : Nat) (x1 x2 x4 : Int32) (x3 : Int64) (S : mw_S) (h : ¬ (wIn 1 12 x1 ∧ wIn 0 15 x2 ∧ x3 &&& (-281474976710656) = 0 ∧ tOK x4)) : mh_M l lw_tbl y_La_forge b_La_forge 8 (some .int) [(0, 14, 17, 13), (0, 14, 21, 15)] { frames := 7, cells := 1, slots := 6, locals := 107 } D vCl cA sh_He 70 [.inr (.inr 0), .inl x1, .inl x2, .inr (.inl x3), .inl x4, .inr (.inr 69)] (S) bd (mw_Pi (fun r S' => r = nI 1 ∧ S' = S)) := by
  refine mh_M_of (by decide) (Nat.le_of_ble_eq_true rfl) ?_
  intro p e s m args below meth c A ad C hR hE
  refine mw_aload C d_La_forge_0 rfl ?_
  refine mw_iconst C (v := nI 0) d_La_forge_2 (by decide) ?_
  refine mw_aload_n C 0 d_La_forge_3 rfl rfl ?_
  refine mw_iload_n C 1 d_La_forge_4 rfl rfl ?_
  refine mw_iload_n C 2 d_La_forge_5 rfl rfl ?_
  refine mw_lload_n C 3 d_La_forge_6 rfl rfl ?_
  refine mw_iload C d_La_forge_7 rfl ?_
  refine mh_invT C (kk := 0) (ix := [0, 1, 2, 3, 4, 5, 6, 7, 8, 9, 10, 11, 12, 13, 14, 15, 16, 17, 18, 19, 20, 21, 22, 23, 24, 25, 26, 27, 28, 29, 30, 31, 32, 33, 34, 35, 36, 37, 38, 39, 40, 41, 42, 43, 44, 45, 46, 47, 48, 49, 50, 51, 52, 53, 54, 55, 56, 57, 58, 59, 60, 61, 62, 63, 64, 65, 66, 67, 68]) (np := 4) (mt_Wl_forge_IAE l htr D cA bd x1 x2 x4 x3 _ h) ix_Wl_He wc_Wl_forge wi_Wl (by decide +kernel) (mw_G_in 611 (by decide +kernel) rfl) wm_Wl_forge wv_Wl_forge (by decide) rfl rfl d_La_forge_9 rfl rfl (Nat.le_of_ble_eq_true rfl) rfl rfl ⟨by decide, by decide⟩ (by decide) (by decide) hE.2.1.1 hE.2.2.1 hE.2.2.2 hE.1 (fun T locs g Y hg hpc => mh_goI C Y hg (by rw [hpc]; decide) (by decide) wlL_13 wca_IAE) (fun x H locs ls hP hS hl => ?_)
  refine lv_astore C.1.1 C.1.2.1 d_La_forge_17 hl (by decide) rfl (fun ls9 hl9 => ?_)
  refine lv_iconst (v := nI 1) C.1.1 C.1.2.1 d_La_forge_19 (by decide) ?_
  exact W.iret C.1.1 C.1.2.1 hR.1 (fun t ht _ => ⟨⟨some (.inl (nI 1)), S, rfl, ⟨nI 1, rfl, ⟨rfl, rfl⟩⟩, by rw [ht]; exact hP⟩, by have h9 := hS.F ht; rw [hR.2.2] at h9; exact h9⟩) hS.2.2 d_La_forge_20 hR.2.1
set_option maxHeartbeats 4000000 in
set_option maxRecDepth 100000 in
theorem mh_La_forge_2 (l : Launch) (htr : l.stackTraces = false) (D : va_G) (cA : Nat → ClassId) (bd : Nat) (x1 x2 x4 : Int32) (x3 : Int64) (S : mw_S) (fg : Nat) (h1 : wIn 1 12 x1) (h2 : wIn 0 15 x2) (h3 : x3 &&& (-281474976710656) = 0) (h4 : tOK x4) (hf : S.1 0 5 = nI fg) (hfl : fg < 2 ^ 31) (h : S.1 0 0 = -1 ∨ 24 ≤ fg) : mh_M l lw_tbl y_La_forge b_La_forge 8 (some .int) [(0, 14, 17, 13), (0, 14, 21, 15)] { frames := 7, cells := 1, slots := 6, locals := 107 } D vCl cA sh_He 70 [.inr (.inr 0), .inl x1, .inl x2, .inr (.inl x3), .inl x4, .inr (.inr 69)] (S) bd (mw_Pi (fun r S' => r = nI 2 ∧ S' = S)) := by
  refine mh_M_of (by decide) (Nat.le_of_ble_eq_true rfl) ?_
  intro p e s m args below meth c A ad C hR hE
  refine mw_aload C d_La_forge_0 rfl ?_
  refine mw_iconst C (v := nI 0) d_La_forge_2 (by decide) ?_
  refine mw_aload_n C 0 d_La_forge_3 rfl rfl ?_
  refine mw_iload_n C 1 d_La_forge_4 rfl rfl ?_
  refine mw_iload_n C 2 d_La_forge_5 rfl rfl ?_
  refine mw_lload_n C 3 d_La_forge_6 rfl rfl ?_
  refine mw_iload C d_La_forge_7 rfl ?_
  refine mh_invT C (kk := 0) (ix := [0, 1, 2, 3, 4, 5, 6, 7, 8, 9, 10, 11, 12, 13, 14, 15, 16, 17, 18, 19, 20, 21, 22, 23, 24, 25, 26, 27, 28, 29, 30, 31, 32, 33, 34, 35, 36, 37, 38, 39, 40, 41, 42, 43, 44, 45, 46, 47, 48, 49, 50, 51, 52, 53, 54, 55, 56, 57, 58, 59, 60, 61, 62, 63, 64, 65, 66, 67, 68]) (np := 4) (mt_Wl_forge_ISE l htr D cA bd x1 x2 x4 x3 _ fg h1 h2 h3 h4 hf hfl h) ix_Wl_He wc_Wl_forge wi_Wl (by decide +kernel) (mw_G_in 611 (by decide +kernel) rfl) wm_Wl_forge wv_Wl_forge (by decide) rfl rfl d_La_forge_9 rfl rfl (Nat.le_of_ble_eq_true rfl) rfl rfl ⟨by decide, by decide⟩ (by decide) (by decide) hE.2.1.1 hE.2.2.1 hE.2.2.2 hE.1 (fun T locs g Y hg hpc => mh_goS C Y hE.2.1.2 hg (by rw [hpc]; decide) (by decide) (by rw [hpc]; decide) (by decide) wlL_13 wlL_15 wca_ISE) (fun x H locs ls hP hS hl => ?_)
  refine lv_astore C.1.1 C.1.2.1 d_La_forge_21 hl (by decide) rfl (fun ls9 hl9 => ?_)
  refine lv_iconst (v := nI 2) C.1.1 C.1.2.1 d_La_forge_23 (by decide) ?_
  exact W.iret C.1.1 C.1.2.1 hR.1 (fun t ht _ => ⟨⟨some (.inl (nI 2)), S, rfl, ⟨nI 2, rfl, ⟨rfl, rfl⟩⟩, by rw [ht]; exact hP⟩, by have h9 := hS.F ht; rw [hR.2.2] at h9; exact h9⟩) hS.2.2 d_La_forge_24 hR.2.1
set_option maxHeartbeats 4000000 in
set_option maxRecDepth 100000 in
theorem mh_La_whisper_1 (l : Launch) (htr : l.stackTraces = false) (D : va_G) (cA : Nat → ClassId) (bd : Nat) (x1 x2 x3 : Int32) (S : mw_S) (nv : Nat) (hv : S.1 2 4 = nI nv) (hvl : nv < 2 ^ 30) (h : ¬ (wIn 0 2 x1 ∧ wAct S x2 ∧ wIn 1 nv x3)) : mh_M l lw_tbl y_La_whisper b_La_whisper 6 (some .int) [(0, 12, 15, 13), (0, 12, 19, 15)] { frames := 7, cells := 1, slots := 6, locals := 105 } D vCl cA sh_He 70 [.inr (.inr 0), .inl x1, .inl x2, .inl x3, .inr (.inr 69)] (S) bd (mw_Pi (fun r S' => r = nI 1 ∧ S' = S)) := by
  refine mh_M_of (by decide) (Nat.le_of_ble_eq_true rfl) ?_
  intro p e s m args below meth c A ad C hR hE
  refine mw_aload C d_La_whisper_0 rfl ?_
  refine mw_iconst C (v := nI 0) d_La_whisper_2 (by decide) ?_
  refine mw_aload_n C 0 d_La_whisper_3 rfl rfl ?_
  refine mw_iload_n C 1 d_La_whisper_4 rfl rfl ?_
  refine mw_iload_n C 2 d_La_whisper_5 rfl rfl ?_
  refine mw_iload_n C 3 d_La_whisper_6 rfl rfl ?_
  refine mh_invT C (kk := 0) (ix := [0, 1, 2, 3, 4, 5, 6, 7, 8, 9, 10, 11, 12, 13, 14, 15, 16, 17, 18, 19, 20, 21, 22, 23, 24, 25, 26, 27, 28, 29, 30, 31, 32, 33, 34, 35, 36, 37, 38, 39, 40, 41, 42, 43, 44, 45, 46, 47, 48, 49, 50, 51, 52, 53, 54, 55, 56, 57, 58, 59, 60, 61, 62, 63, 64, 65, 66, 67, 68]) (np := 3) (mt_Wl_whisper_IAE l htr D cA bd x1 x2 x3 _ nv hv hvl h) ix_Wl_He wc_Wl_whisper wi_Wl (by decide +kernel) (mw_G_in 629 (by decide +kernel) rfl) wm_Wl_whisper wv_Wl_whisper (by decide) rfl rfl d_La_whisper_7 rfl rfl (Nat.le_of_ble_eq_true rfl) rfl rfl ⟨by decide, by decide⟩ (by decide) (by decide) hE.2.1.1 hE.2.2.1 hE.2.2.2 hE.1 (fun T locs g Y hg hpc => mh_goI C Y hg (by rw [hpc]; decide) (by decide) wlL_13 wca_IAE) (fun x H locs ls hP hS hl => ?_)
  refine lv_astore C.1.1 C.1.2.1 d_La_whisper_15 hl (by decide) rfl (fun ls9 hl9 => ?_)
  refine lv_iconst (v := nI 1) C.1.1 C.1.2.1 d_La_whisper_17 (by decide) ?_
  exact W.iret C.1.1 C.1.2.1 hR.1 (fun t ht _ => ⟨⟨some (.inl (nI 1)), S, rfl, ⟨nI 1, rfl, ⟨rfl, rfl⟩⟩, by rw [ht]; exact hP⟩, by have h9 := hS.F ht; rw [hR.2.2] at h9; exact h9⟩) hS.2.2 d_La_whisper_18 hR.2.1
set_option maxHeartbeats 4000000 in
set_option maxRecDepth 100000 in
theorem mh_La_whisper_2 (l : Launch) (htr : l.stackTraces = false) (D : va_G) (cA : Nat → ClassId) (bd : Nat) (x1 x2 x3 : Int32) (S : mw_S) (nv : Nat) (hv : S.1 2 4 = nI nv) (hvl : nv < 2 ^ 30) (h1 : wIn 0 2 x1) (h2 : wAct S x2) (h3 : wIn 1 nv x3) (h : S.1 0 0 = -1) : mh_M l lw_tbl y_La_whisper b_La_whisper 6 (some .int) [(0, 12, 15, 13), (0, 12, 19, 15)] { frames := 7, cells := 1, slots := 6, locals := 105 } D vCl cA sh_He 70 [.inr (.inr 0), .inl x1, .inl x2, .inl x3, .inr (.inr 69)] (S) bd (mw_Pi (fun r S' => r = nI 2 ∧ S' = S)) := by
  refine mh_M_of (by decide) (Nat.le_of_ble_eq_true rfl) ?_
  intro p e s m args below meth c A ad C hR hE
  refine mw_aload C d_La_whisper_0 rfl ?_
  refine mw_iconst C (v := nI 0) d_La_whisper_2 (by decide) ?_
  refine mw_aload_n C 0 d_La_whisper_3 rfl rfl ?_
  refine mw_iload_n C 1 d_La_whisper_4 rfl rfl ?_
  refine mw_iload_n C 2 d_La_whisper_5 rfl rfl ?_
  refine mw_iload_n C 3 d_La_whisper_6 rfl rfl ?_
  refine mh_invT C (kk := 0) (ix := [0, 1, 2, 3, 4, 5, 6, 7, 8, 9, 10, 11, 12, 13, 14, 15, 16, 17, 18, 19, 20, 21, 22, 23, 24, 25, 26, 27, 28, 29, 30, 31, 32, 33, 34, 35, 36, 37, 38, 39, 40, 41, 42, 43, 44, 45, 46, 47, 48, 49, 50, 51, 52, 53, 54, 55, 56, 57, 58, 59, 60, 61, 62, 63, 64, 65, 66, 67, 68]) (np := 3) (mt_Wl_whisper_ISE l htr D cA bd x1 x2 x3 _ nv hv hvl h1 h2 h3 h) ix_Wl_He wc_Wl_whisper wi_Wl (by decide +kernel) (mw_G_in 629 (by decide +kernel) rfl) wm_Wl_whisper wv_Wl_whisper (by decide) rfl rfl d_La_whisper_7 rfl rfl (Nat.le_of_ble_eq_true rfl) rfl rfl ⟨by decide, by decide⟩ (by decide) (by decide) hE.2.1.1 hE.2.2.1 hE.2.2.2 hE.1 (fun T locs g Y hg hpc => mh_goS C Y hE.2.1.2 hg (by rw [hpc]; decide) (by decide) (by rw [hpc]; decide) (by decide) wlL_13 wlL_15 wca_ISE) (fun x H locs ls hP hS hl => ?_)
  refine lv_astore C.1.1 C.1.2.1 d_La_whisper_19 hl (by decide) rfl (fun ls9 hl9 => ?_)
  refine lv_iconst (v := nI 2) C.1.1 C.1.2.1 d_La_whisper_21 (by decide) ?_
  exact W.iret C.1.1 C.1.2.1 hR.1 (fun t ht _ => ⟨⟨some (.inl (nI 2)), S, rfl, ⟨nI 2, rfl, ⟨rfl, rfl⟩⟩, by rw [ht]; exact hP⟩, by have h9 := hS.F ht; rw [hR.2.2] at h9; exact h9⟩) hS.2.2 d_La_whisper_22 hR.2.1
