/-! words for the throws -/
theorem wl_51 : Cond.classLink "WaveLedger" 51 "java/lang/IllegalArgumentException" ∈ mw_G lw_tbl := mw_G_in 507 (by decide +kernel) rfl
theorem wl_70 : Cond.classLink "WaveLedger" 70 "java/lang/IllegalStateException" ∈ mw_G lw_tbl := mw_G_in 579 (by decide +kernel) rfl
theorem wn_IAE : Cond.instantiable "java/lang/IllegalArgumentException" 6 ∈ mw_G lw_tbl := mw_G_in 508 (by decide +kernel) rfl
theorem wn_ISE : Cond.instantiable "java/lang/IllegalStateException" 6 ∈ mw_G lw_tbl := mw_G_in 580 (by decide +kernel) rfl
theorem wz_IAE : Cond.initialized "java/lang/IllegalArgumentException" ∈ mw_G lw_tbl := mw_G_in 49 (by decide +kernel) rfl
theorem wz_ISE : Cond.initialized "java/lang/IllegalStateException" ∈ mw_G lw_tbl := mw_G_in 50 (by decide +kernel) rfl
theorem wlL_13 : Cond.classLink "WaveLedgerLaw" 13 "java/lang/IllegalArgumentException" ∈ mw_G lw_tbl := mw_G_in 498 (by decide +kernel) rfl
theorem wlL_15 : Cond.classLink "WaveLedgerLaw" 15 "java/lang/IllegalStateException" ∈ mw_G lw_tbl := mw_G_in 499 (by decide +kernel) rfl
theorem wca_IAE : Cond.castable "java/lang/IllegalArgumentException" "java/lang/IllegalArgumentException" ∈ mw_N lw_tbl := mw_N_in 509 (by decide +kernel) rfl
theorem wca_ISE : Cond.castable "java/lang/IllegalStateException" "java/lang/IllegalStateException" ∈ mw_N lw_tbl := mw_N_in 581 (by decide +kernel) rfl
set_option maxRecDepth 100000 in
theorem wcw_La_transfer : Cond.codeWith y_La_transfer b_La_transfer 7 (some .int) [(0, 14, 17, 13), (0, 14, 21, 15)] ∈ mw_G lw_tbl := mw_G_in 497 (by rfl) rfl
set_option maxRecDepth 100000 in
theorem wcw_La_run : Cond.codeWith y_La_run b_La_run 4 (some .int) [(0, 9, 12, 13)] ∈ mw_G lw_tbl := mw_G_in 601 (by rfl) rfl
set_option maxRecDepth 100000 in
theorem wcw_La_forge : Cond.codeWith y_La_forge b_La_forge 8 (some .int) [(0, 14, 17, 13), (0, 14, 21, 15)] ∈ mw_G lw_tbl := mw_G_in 610 (by rfl) rfl
set_option maxRecDepth 100000 in
theorem wcw_La_whisper : Cond.codeWith y_La_whisper b_La_whisper 6 (some .int) [(0, 12, 15, 13), (0, 12, 19, 15)] ∈ mw_G lw_tbl := mw_G_in 628 (by rfl) rfl
set_option maxRecDepth 100000 in
theorem at_IAE : mt_At lw_tbl "WaveLedger" 55 "java/lang/IllegalArgumentException" := by unfold mt_At; decide +kernel
set_option maxRecDepth 100000 in
theorem at_ISE : mt_At lw_tbl "WaveLedger" 74 "java/lang/IllegalStateException" := by unfold mt_At; decide +kernel
