/-! the words that stand in the tables -/
theorem wi_Bo : Cond.initialized "WaveLedger$Book" ∈ mw_G lw_tbl := mw_G_in 41 (by decide +kernel) rfl
theorem wi_Gr : Cond.initialized "WaveLedger$Graph" ∈ mw_G lw_tbl := mw_G_in 44 (by decide +kernel) rfl
theorem wi_Ma : Cond.initialized "WaveLedger$Mail" ∈ mw_G lw_tbl := mw_G_in 39 (by decide +kernel) rfl
theorem wi_No : Cond.initialized "WaveLedger$Node" ∈ mw_G lw_tbl := mw_G_in 40 (by decide +kernel) rfl
theorem wi_Tq : Cond.initialized "WaveLedger$TransferQueue" ∈ mw_G lw_tbl := mw_G_in 42 (by decide +kernel) rfl
theorem wi_Ve : Cond.initialized "WaveLedger$Vertices" ∈ mw_G lw_tbl := mw_G_in 38 (by decide +kernel) rfl
theorem wi_Vo : Cond.initialized "WaveLedger$Votes" ∈ mw_G lw_tbl := mw_G_in 43 (by decide +kernel) rfl
theorem wi_Wl : Cond.initialized "WaveLedger" ∈ mw_G lw_tbl := mw_G_in 37 (by decide +kernel) rfl
theorem wi_Mo : Cond.initialized "WaveLedgerModel" ∈ mw_G lw_tbl := mw_G_in 45 (by decide +kernel) rfl
theorem wi_La : Cond.initialized "WaveLedgerLaw" ∈ mw_G lw_tbl := mw_G_in 36 (by decide +kernel) rfl
theorem wi_In : Cond.initialized "java/lang/Integer" ∈ mw_G lw_tbl := mw_G_in 51 (by decide +kernel) rfl
theorem wi_Lo : Cond.initialized "java/lang/Long" ∈ mw_G lw_tbl := mw_G_in 53 (by decide +kernel) rfl
theorem wu_Bo : ∀ w ∈ u_ws R_Bo T_Bo 4, w ∈ mw_G lw_tbl := by decide +kernel
theorem wu_Gr : ∀ w ∈ u_ws R_Gr T_Gr 5, w ∈ mw_G lw_tbl := by decide +kernel
theorem wu_Ma : ∀ w ∈ u_ws R_Ma T_Ma 3, w ∈ mw_G lw_tbl := by decide +kernel
theorem wu_No : ∀ w ∈ u_ws R_No T_No 15, w ∈ mw_G lw_tbl := by decide +kernel
theorem wu_Tq : ∀ w ∈ u_ws R_Tq T_Tq 2, w ∈ mw_G lw_tbl := by decide +kernel
theorem wu_Ve : ∀ w ∈ u_ws R_Ve T_Ve 5, w ∈ mw_G lw_tbl := by decide +kernel
theorem wu_Vo : ∀ w ∈ u_ws R_Vo T_Vo 1, w ∈ mw_G lw_tbl := by decide +kernel
theorem wu_Wl : ∀ w ∈ u_ws R_Wl T_Wl 7, w ∈ mw_G lw_tbl := by decide +kernel
theorem wu_Mo : ∀ w ∈ u_ws R_Mo T_Mo 29, w ∈ mw_G lw_tbl := by decide +kernel
set_option maxRecDepth 100000 in
theorem wc_Bo_init : Cond.code y_Bo_init b_Bo_init 2 none ∈ mw_G lw_tbl := mw_G_in 126 (by rfl) rfl
theorem wm_Bo_init : Cond.instanceMethod y_Bo_init ∈ mw_G lw_tbl := mw_G_in 125 (by decide +kernel) rfl
set_option maxRecDepth 100000 in
theorem wc_Bo_enter : Cond.code y_Bo_enter b_Bo_enter 4 none ∈ mw_G lw_tbl := mw_G_in 338 (by rfl) rfl
theorem wm_Bo_enter : Cond.instanceMethod y_Bo_enter ∈ mw_G lw_tbl := mw_G_in 336 (by decide +kernel) rfl
theorem wv_Bo_enter : Cond.selects "WaveLedger$Book" y_Bo_enter y_Bo_enter ∈ mw_G lw_tbl := mw_G_in 337 (by decide +kernel) rfl
set_option maxRecDepth 100000 in
theorem wc_Gr_init : Cond.code y_Gr_init b_Gr_init 2 none ∈ mw_G lw_tbl := mw_G_in 173 (by rfl) rfl
theorem wm_Gr_init : Cond.instanceMethod y_Gr_init ∈ mw_G lw_tbl := mw_G_in 172 (by decide +kernel) rfl
set_option maxRecDepth 100000 in
theorem wc_Gr_has : Cond.code y_Gr_has b_Gr_has 2 (some .boolean) ∈ mw_G lw_tbl := mw_G_in 309 (by rfl) rfl
theorem wm_Gr_has : Cond.instanceMethod y_Gr_has ∈ mw_G lw_tbl := mw_G_in 307 (by decide +kernel) rfl
theorem wv_Gr_has : Cond.selects "WaveLedger$Graph" y_Gr_has y_Gr_has ∈ mw_G lw_tbl := mw_G_in 308 (by decide +kernel) rfl
set_option maxRecDepth 100000 in
theorem wc_Gr_accept : Cond.code y_Gr_accept b_Gr_accept 3 none ∈ mw_G lw_tbl := mw_G_in 435 (by rfl) rfl
theorem wm_Gr_accept : Cond.instanceMethod y_Gr_accept ∈ mw_G lw_tbl := mw_G_in 433 (by decide +kernel) rfl
theorem wv_Gr_accept : Cond.selects "WaveLedger$Graph" y_Gr_accept y_Gr_accept ∈ mw_G lw_tbl := mw_G_in 434 (by decide +kernel) rfl
set_option maxRecDepth 100000 in
theorem wc_Gr_addIfAllowed : Cond.code y_Gr_addIfAllowed b_Gr_addIfAllowed 7 none ∈ mw_G lw_tbl := mw_G_in 439 (by rfl) rfl
theorem wm_Gr_addIfAllowed : Cond.instanceMethod y_Gr_addIfAllowed ∈ mw_G lw_tbl := mw_G_in 438 (by decide +kernel) rfl
theorem wv_Gr_addIfAllowed : Cond.selects "WaveLedger$Graph" y_Gr_addIfAllowed y_Gr_addIfAllowed ∈ mw_G lw_tbl := mw_G_in 8 (by decide +kernel) rfl
set_option maxRecDepth 100000 in
theorem wc_Gr_follow : Cond.code y_Gr_follow b_Gr_follow 6 (some .long) ∈ mw_G lw_tbl := mw_G_in 357 (by rfl) rfl
theorem ws_Gr_follow : Cond.static y_Gr_follow ∈ mw_G lw_tbl := mw_G_in 356 (by decide +kernel) rfl
set_option maxRecDepth 100000 in
theorem wc_Gr_nodesIn : Cond.code y_Gr_nodesIn b_Gr_nodesIn 2 (some .int) ∈ mw_G lw_tbl := mw_G_in 287 (by rfl) rfl
theorem wm_Gr_nodesIn : Cond.instanceMethod y_Gr_nodesIn ∈ mw_G lw_tbl := mw_G_in 285 (by decide +kernel) rfl
theorem wv_Gr_nodesIn : Cond.selects "WaveLedger$Graph" y_Gr_nodesIn y_Gr_nodesIn ∈ mw_G lw_tbl := mw_G_in 286 (by decide +kernel) rfl
set_option maxRecDepth 100000 in
theorem wc_Gr_hasQuorumIn : Cond.code y_Gr_hasQuorumIn b_Gr_hasQuorumIn 2 (some .boolean) ∈ mw_G lw_tbl := mw_G_in 283 (by rfl) rfl
theorem wm_Gr_hasQuorumIn : Cond.instanceMethod y_Gr_hasQuorumIn ∈ mw_G lw_tbl := mw_G_in 281 (by decide +kernel) rfl
theorem wv_Gr_hasQuorumIn : Cond.selects "WaveLedger$Graph" y_Gr_hasQuorumIn y_Gr_hasQuorumIn ∈ mw_G lw_tbl := mw_G_in 282 (by decide +kernel) rfl
set_option maxRecDepth 100000 in
theorem wc_Gr_leadsStrongly : Cond.code y_Gr_leadsStrongly b_Gr_leadsStrongly 3 (some .boolean) ∈ mw_G lw_tbl := mw_G_in 320 (by rfl) rfl
theorem wm_Gr_leadsStrongly : Cond.instanceMethod y_Gr_leadsStrongly ∈ mw_G lw_tbl := mw_G_in 318 (by decide +kernel) rfl
theorem wv_Gr_leadsStrongly : Cond.selects "WaveLedger$Graph" y_Gr_leadsStrongly y_Gr_leadsStrongly ∈ mw_G lw_tbl := mw_G_in 319 (by decide +kernel) rfl
set_option maxRecDepth 100000 in
theorem wc_Gr_supportFrom : Cond.code y_Gr_supportFrom b_Gr_supportFrom 5 (some .int) ∈ mw_G lw_tbl := mw_G_in 316 (by rfl) rfl
theorem wm_Gr_supportFrom : Cond.instanceMethod y_Gr_supportFrom ∈ mw_G lw_tbl := mw_G_in 314 (by decide +kernel) rfl
theorem wv_Gr_supportFrom : Cond.selects "WaveLedger$Graph" y_Gr_supportFrom y_Gr_supportFrom ∈ mw_G lw_tbl := mw_G_in 315 (by decide +kernel) rfl
set_option maxRecDepth 100000 in
theorem wc_Gr_weakPlacesFor : Cond.code y_Gr_weakPlacesFor b_Gr_weakPlacesFor 11 (some .long) ∈ mw_G lw_tbl := mw_G_in 354 (by rfl) rfl
theorem wm_Gr_weakPlacesFor : Cond.instanceMethod y_Gr_weakPlacesFor ∈ mw_G lw_tbl := mw_G_in 352 (by decide +kernel) rfl
theorem wv_Gr_weakPlacesFor : Cond.selects "WaveLedger$Graph" y_Gr_weakPlacesFor y_Gr_weakPlacesFor ∈ mw_G lw_tbl := mw_G_in 353 (by decide +kernel) rfl
set_option maxRecDepth 100000 in
theorem wc_Ma_init : Cond.code y_Ma_init b_Ma_init 2 none ∈ mw_G lw_tbl := mw_G_in 101 (by rfl) rfl
theorem wm_Ma_init : Cond.instanceMethod y_Ma_init ∈ mw_G lw_tbl := mw_G_in 100 (by decide +kernel) rfl
set_option maxRecDepth 100000 in
theorem wc_Ma_send : Cond.code y_Ma_send b_Ma_send 5 none ∈ mw_G lw_tbl := mw_G_in 378 (by rfl) rfl
theorem wm_Ma_send : Cond.instanceMethod y_Ma_send ∈ mw_G lw_tbl := mw_G_in 376 (by decide +kernel) rfl
theorem wv_Ma_send : Cond.selects "WaveLedger$Mail" y_Ma_send y_Ma_send ∈ mw_G lw_tbl := mw_G_in 377 (by decide +kernel) rfl
set_option maxRecDepth 100000 in
theorem wc_Ma_broadcast : Cond.code y_Ma_broadcast b_Ma_broadcast 5 none ∈ mw_G lw_tbl := mw_G_in 374 (by rfl) rfl
theorem wm_Ma_broadcast : Cond.instanceMethod y_Ma_broadcast ∈ mw_G lw_tbl := mw_G_in 372 (by decide +kernel) rfl
theorem wv_Ma_broadcast : Cond.selects "WaveLedger$Mail" y_Ma_broadcast y_Ma_broadcast ∈ mw_G lw_tbl := mw_G_in 373 (by decide +kernel) rfl
set_option maxRecDepth 100000 in
theorem wc_Ma_has : Cond.code y_Ma_has b_Ma_has 2 (some .boolean) ∈ mw_G lw_tbl := mw_G_in 386 (by rfl) rfl
theorem wm_Ma_has : Cond.instanceMethod y_Ma_has ∈ mw_G lw_tbl := mw_G_in 384 (by decide +kernel) rfl
theorem wv_Ma_has : Cond.selects "WaveLedger$Mail" y_Ma_has y_Ma_has ∈ mw_G lw_tbl := mw_G_in 385 (by decide +kernel) rfl
set_option maxRecDepth 100000 in
theorem wc_Ma_take : Cond.code y_Ma_take b_Ma_take 3 (some .int) ∈ mw_G lw_tbl := mw_G_in 394 (by rfl) rfl
theorem wm_Ma_take : Cond.instanceMethod y_Ma_take ∈ mw_G lw_tbl := mw_G_in 392 (by decide +kernel) rfl
theorem wv_Ma_take : Cond.selects "WaveLedger$Mail" y_Ma_take y_Ma_take ∈ mw_G lw_tbl := mw_G_in 393 (by decide +kernel) rfl
set_option maxRecDepth 100000 in
theorem wc_Ma_kindOf : Cond.code y_Ma_kindOf b_Ma_kindOf 1 (some .int) ∈ mw_G lw_tbl := mw_G_in 407 (by rfl) rfl
theorem ws_Ma_kindOf : Cond.static y_Ma_kindOf ∈ mw_G lw_tbl := mw_G_in 406 (by decide +kernel) rfl
set_option maxRecDepth 100000 in
theorem wc_Ma_senderOf : Cond.code y_Ma_senderOf b_Ma_senderOf 1 (some .int) ∈ mw_G lw_tbl := mw_G_in 398 (by rfl) rfl
theorem ws_Ma_senderOf : Cond.static y_Ma_senderOf ∈ mw_G lw_tbl := mw_G_in 397 (by decide +kernel) rfl
set_option maxRecDepth 100000 in
theorem wc_Ma_receiverOf : Cond.code y_Ma_receiverOf b_Ma_receiverOf 1 (some .int) ∈ mw_G lw_tbl := mw_G_in 404 (by rfl) rfl
theorem ws_Ma_receiverOf : Cond.static y_Ma_receiverOf ∈ mw_G lw_tbl := mw_G_in 403 (by decide +kernel) rfl
set_option maxRecDepth 100000 in
theorem wc_Ma_subjectOf : Cond.code y_Ma_subjectOf b_Ma_subjectOf 1 (some .int) ∈ mw_G lw_tbl := mw_G_in 401 (by rfl) rfl
theorem ws_Ma_subjectOf : Cond.static y_Ma_subjectOf ∈ mw_G lw_tbl := mw_G_in 400 (by decide +kernel) rfl
set_option maxRecDepth 100000 in
theorem wc_No_init : Cond.code y_No_init b_No_init 5 none ∈ mw_G lw_tbl := mw_G_in 120 (by rfl) rfl
theorem wm_No_init : Cond.instanceMethod y_No_init ∈ mw_G lw_tbl := mw_G_in 119 (by decide +kernel) rfl
set_option maxRecDepth 100000 in
theorem wc_No_receiveSend : Cond.code y_No_receiveSend b_No_receiveSend 4 none ∈ mw_G lw_tbl := mw_G_in 411 (by rfl) rfl
theorem wm_No_receiveSend : Cond.instanceMethod y_No_receiveSend ∈ mw_G lw_tbl := mw_G_in 409 (by decide +kernel) rfl
theorem wv_No_receiveSend : Cond.selects "WaveLedger$Node" y_No_receiveSend y_No_receiveSend ∈ mw_G lw_tbl := mw_G_in 410 (by decide +kernel) rfl
set_option maxRecDepth 100000 in
theorem wc_No_receiveEcho : Cond.code y_No_receiveEcho b_No_receiveEcho 4 none ∈ mw_G lw_tbl := mw_G_in 419 (by rfl) rfl
theorem wm_No_receiveEcho : Cond.instanceMethod y_No_receiveEcho ∈ mw_G lw_tbl := mw_G_in 417 (by decide +kernel) rfl
theorem wv_No_receiveEcho : Cond.selects "WaveLedger$Node" y_No_receiveEcho y_No_receiveEcho ∈ mw_G lw_tbl := mw_G_in 418 (by decide +kernel) rfl
set_option maxRecDepth 100000 in
theorem wc_No_receiveReady : Cond.code y_No_receiveReady b_No_receiveReady 5 none ∈ mw_G lw_tbl := mw_G_in 431 (by rfl) rfl
theorem wm_No_receiveReady : Cond.instanceMethod y_No_receiveReady ∈ mw_G lw_tbl := mw_G_in 429 (by decide +kernel) rfl
theorem wv_No_receiveReady : Cond.selects "WaveLedger$Node" y_No_receiveReady y_No_receiveReady ∈ mw_G lw_tbl := mw_G_in 430 (by decide +kernel) rfl
set_option maxRecDepth 100000 in
theorem wc_No_broadcastReadyOnce : Cond.code y_No_broadcastReadyOnce b_No_broadcastReadyOnce 3 none ∈ mw_G lw_tbl := mw_G_in 427 (by rfl) rfl
theorem wm_No_broadcastReadyOnce : Cond.instanceMethod y_No_broadcastReadyOnce ∈ mw_G lw_tbl := mw_G_in 426 (by decide +kernel) rfl
theorem wv_No_broadcastReadyOnce : Cond.selects "WaveLedger$Node" y_No_broadcastReadyOnce y_No_broadcastReadyOnce ∈ mw_G lw_tbl := mw_G_in 7 (by decide +kernel) rfl
set_option maxRecDepth 100000 in
theorem wc_No_goOn : Cond.code y_No_goOn b_No_goOn 2 none ∈ mw_G lw_tbl := mw_G_in 279 (by rfl) rfl
theorem wm_No_goOn : Cond.instanceMethod y_No_goOn ∈ mw_G lw_tbl := mw_G_in 277 (by decide +kernel) rfl
theorem wv_No_goOn : Cond.selects "WaveLedger$Node" y_No_goOn y_No_goOn ∈ mw_G lw_tbl := mw_G_in 278 (by decide +kernel) rfl
set_option maxRecDepth 100000 in
theorem wc_No_broadcastOwnVertex : Cond.code y_No_broadcastOwnVertex b_No_broadcastOwnVertex 6 none ∈ mw_G lw_tbl := mw_G_in 349 (by rfl) rfl
theorem wm_No_broadcastOwnVertex : Cond.instanceMethod y_No_broadcastOwnVertex ∈ mw_G lw_tbl := mw_G_in 348 (by decide +kernel) rfl
theorem wv_No_broadcastOwnVertex : Cond.selects "WaveLedger$Node" y_No_broadcastOwnVertex y_No_broadcastOwnVertex ∈ mw_G lw_tbl := mw_G_in 5 (by decide +kernel) rfl
set_option maxRecDepth 100000 in
theorem wc_No_mayCommit : Cond.code y_No_mayCommit b_No_mayCommit 3 (some .boolean) ∈ mw_G lw_tbl := mw_G_in 300 (by rfl) rfl
theorem wm_No_mayCommit : Cond.instanceMethod y_No_mayCommit ∈ mw_G lw_tbl := mw_G_in 299 (by decide +kernel) rfl
theorem wv_No_mayCommit : Cond.selects "WaveLedger$Node" y_No_mayCommit y_No_mayCommit ∈ mw_G lw_tbl := mw_G_in 1 (by decide +kernel) rfl
set_option maxRecDepth 100000 in
theorem wc_No_leaderOf : Cond.code y_No_leaderOf b_No_leaderOf 3 (some .int) ∈ mw_G lw_tbl := mw_G_in 304 (by rfl) rfl
theorem wm_No_leaderOf : Cond.instanceMethod y_No_leaderOf ∈ mw_G lw_tbl := mw_G_in 303 (by decide +kernel) rfl
theorem wv_No_leaderOf : Cond.selects "WaveLedger$Node" y_No_leaderOf y_No_leaderOf ∈ mw_G lw_tbl := mw_G_in 2 (by decide +kernel) rfl
set_option maxRecDepth 100000 in
theorem wc_No_commit : Cond.code y_No_commit b_No_commit 5 none ∈ mw_G lw_tbl := mw_G_in 324 (by rfl) rfl
theorem wm_No_commit : Cond.instanceMethod y_No_commit ∈ mw_G lw_tbl := mw_G_in 323 (by decide +kernel) rfl
theorem wv_No_commit : Cond.selects "WaveLedger$Node" y_No_commit y_No_commit ∈ mw_G lw_tbl := mw_G_in 3 (by decide +kernel) rfl
set_option maxRecDepth 100000 in
theorem wc_No_orderFrom : Cond.code y_No_orderFrom b_No_orderFrom 5 none ∈ mw_G lw_tbl := mw_G_in 329 (by rfl) rfl
theorem wm_No_orderFrom : Cond.instanceMethod y_No_orderFrom ∈ mw_G lw_tbl := mw_G_in 328 (by decide +kernel) rfl
theorem wv_No_orderFrom : Cond.selects "WaveLedger$Node" y_No_orderFrom y_No_orderFrom ∈ mw_G lw_tbl := mw_G_in 4 (by decide +kernel) rfl
set_option maxRecDepth 100000 in
theorem wc_Tq_init : Cond.code y_Tq_init b_Tq_init 1 none ∈ mw_G lw_tbl := mw_G_in 149 (by rfl) rfl
theorem wm_Tq_init : Cond.instanceMethod y_Tq_init ∈ mw_G lw_tbl := mw_G_in 148 (by decide +kernel) rfl
set_option maxRecDepth 100000 in
theorem wc_Tq_isFull : Cond.code y_Tq_isFull b_Tq_isFull 1 (some .boolean) ∈ mw_G lw_tbl := mw_G_in 578 (by rfl) rfl
theorem wm_Tq_isFull : Cond.instanceMethod y_Tq_isFull ∈ mw_G lw_tbl := mw_G_in 576 (by decide +kernel) rfl
theorem wv_Tq_isFull : Cond.selects "WaveLedger$TransferQueue" y_Tq_isFull y_Tq_isFull ∈ mw_G lw_tbl := mw_G_in 577 (by decide +kernel) rfl
set_option maxRecDepth 100000 in
theorem wc_Tq_append : Cond.code y_Tq_append b_Tq_append 2 none ∈ mw_G lw_tbl := mw_G_in 598 (by rfl) rfl
theorem wm_Tq_append : Cond.instanceMethod y_Tq_append ∈ mw_G lw_tbl := mw_G_in 596 (by decide +kernel) rfl
theorem wv_Tq_append : Cond.selects "WaveLedger$TransferQueue" y_Tq_append y_Tq_append ∈ mw_G lw_tbl := mw_G_in 597 (by decide +kernel) rfl
set_option maxRecDepth 100000 in
theorem wc_Tq_takeFirstOrNone : Cond.code y_Tq_takeFirstOrNone b_Tq_takeFirstOrNone 2 (some .int) ∈ mw_G lw_tbl := mw_G_in 363 (by rfl) rfl
theorem wm_Tq_takeFirstOrNone : Cond.instanceMethod y_Tq_takeFirstOrNone ∈ mw_G lw_tbl := mw_G_in 361 (by decide +kernel) rfl
theorem wv_Tq_takeFirstOrNone : Cond.selects "WaveLedger$TransferQueue" y_Tq_takeFirstOrNone y_Tq_takeFirstOrNone ∈ mw_G lw_tbl := mw_G_in 362 (by decide +kernel) rfl
set_option maxRecDepth 100000 in
theorem wc_Ve_init : Cond.code y_Ve_init b_Ve_init 1 none ∈ mw_G lw_tbl := mw_G_in 69 (by rfl) rfl
theorem wm_Ve_init : Cond.instanceMethod y_Ve_init ∈ mw_G lw_tbl := mw_G_in 68 (by decide +kernel) rfl
set_option maxRecDepth 100000 in
theorem wc_Ve_make : Cond.code y_Ve_make b_Ve_make 6 (some .int) ∈ mw_G lw_tbl := mw_G_in 370 (by rfl) rfl
theorem wm_Ve_make : Cond.instanceMethod y_Ve_make ∈ mw_G lw_tbl := mw_G_in 368 (by decide +kernel) rfl
theorem wv_Ve_make : Cond.selects "WaveLedger$Vertices" y_Ve_make y_Ve_make ∈ mw_G lw_tbl := mw_G_in 369 (by decide +kernel) rfl
set_option maxRecDepth 100000 in
theorem wc_Ve_has : Cond.code y_Ve_has b_Ve_has 2 (some .boolean) ∈ mw_G lw_tbl := mw_G_in 467 (by rfl) rfl
theorem wm_Ve_has : Cond.instanceMethod y_Ve_has ∈ mw_G lw_tbl := mw_G_in 465 (by decide +kernel) rfl
theorem wv_Ve_has : Cond.selects "WaveLedger$Vertices" y_Ve_has y_Ve_has ∈ mw_G lw_tbl := mw_G_in 466 (by decide +kernel) rfl
set_option maxRecDepth 100000 in
theorem wc_Ve_sourceOf : Cond.code y_Ve_sourceOf b_Ve_sourceOf 2 (some .int) ∈ mw_G lw_tbl := mw_G_in 415 (by rfl) rfl
theorem wm_Ve_sourceOf : Cond.instanceMethod y_Ve_sourceOf ∈ mw_G lw_tbl := mw_G_in 413 (by decide +kernel) rfl
theorem wv_Ve_sourceOf : Cond.selects "WaveLedger$Vertices" y_Ve_sourceOf y_Ve_sourceOf ∈ mw_G lw_tbl := mw_G_in 414 (by decide +kernel) rfl
set_option maxRecDepth 100000 in
theorem wc_Ve_isRight : Cond.code y_Ve_isRight b_Ve_isRight 5 (some .boolean) ∈ mw_G lw_tbl := mw_G_in 443 (by rfl) rfl
theorem wm_Ve_isRight : Cond.instanceMethod y_Ve_isRight ∈ mw_G lw_tbl := mw_G_in 441 (by decide +kernel) rfl
theorem wv_Ve_isRight : Cond.selects "WaveLedger$Vertices" y_Ve_isRight y_Ve_isRight ∈ mw_G lw_tbl := mw_G_in 442 (by decide +kernel) rfl
set_option maxRecDepth 100000 in
theorem wc_Ve_strongPlacesOf : Cond.code y_Ve_strongPlacesOf b_Ve_strongPlacesOf 3 (some .long) ∈ mw_G lw_tbl := mw_G_in 454 (by rfl) rfl
theorem wm_Ve_strongPlacesOf : Cond.instanceMethod y_Ve_strongPlacesOf ∈ mw_G lw_tbl := mw_G_in 452 (by decide +kernel) rfl
theorem wv_Ve_strongPlacesOf : Cond.selects "WaveLedger$Vertices" y_Ve_strongPlacesOf y_Ve_strongPlacesOf ∈ mw_G lw_tbl := mw_G_in 453 (by decide +kernel) rfl
set_option maxRecDepth 100000 in
theorem wc_Vo_init : Cond.code y_Vo_init b_Vo_init 1 none ∈ mw_G lw_tbl := mw_G_in 163 (by rfl) rfl
theorem wm_Vo_init : Cond.instanceMethod y_Vo_init ∈ mw_G lw_tbl := mw_G_in 162 (by decide +kernel) rfl
set_option maxRecDepth 100000 in
theorem wc_Vo_note : Cond.code y_Vo_note b_Vo_note 7 (some .int) ∈ mw_G lw_tbl := mw_G_in 423 (by rfl) rfl
theorem wm_Vo_note : Cond.instanceMethod y_Vo_note ∈ mw_G lw_tbl := mw_G_in 421 (by decide +kernel) rfl
theorem wv_Vo_note : Cond.selects "WaveLedger$Votes" y_Vo_note y_Vo_note ∈ mw_G lw_tbl := mw_G_in 422 (by decide +kernel) rfl
set_option maxRecDepth 100000 in
theorem wc_Wl_init : Cond.code y_Wl_init b_Wl_init 9 none ∈ mw_G lw_tbl := mw_G_in 58 (by rfl) rfl
theorem wm_Wl_init : Cond.instanceMethod y_Wl_init ∈ mw_G lw_tbl := mw_G_in 57 (by decide +kernel) rfl
set_option maxRecDepth 100000 in
theorem wc_Wl_transfer : Cond.code y_Wl_transfer b_Wl_transfer 6 (some .int) ∈ mw_G lw_tbl := mw_G_in 503 (by rfl) rfl
theorem wm_Wl_transfer : Cond.instanceMethod y_Wl_transfer ∈ mw_G lw_tbl := mw_G_in 501 (by decide +kernel) rfl
theorem wv_Wl_transfer : Cond.selects "WaveLedger" y_Wl_transfer y_Wl_transfer ∈ mw_G lw_tbl := mw_G_in 502 (by decide +kernel) rfl
set_option maxRecDepth 100000 in
theorem wc_Wl_begin : Cond.code y_Wl_begin b_Wl_begin 2 (some .boolean) ∈ mw_G lw_tbl := mw_G_in 271 (by rfl) rfl
theorem wm_Wl_begin : Cond.instanceMethod y_Wl_begin ∈ mw_G lw_tbl := mw_G_in 269 (by decide +kernel) rfl
theorem wv_Wl_begin : Cond.selects "WaveLedger" y_Wl_begin y_Wl_begin ∈ mw_G lw_tbl := mw_G_in 270 (by decide +kernel) rfl
set_option maxRecDepth 100000 in
theorem wc_Wl_run : Cond.code y_Wl_run b_Wl_run 3 (some .int) ∈ mw_G lw_tbl := mw_G_in 605 (by rfl) rfl
theorem wm_Wl_run : Cond.instanceMethod y_Wl_run ∈ mw_G lw_tbl := mw_G_in 603 (by decide +kernel) rfl
theorem wv_Wl_run : Cond.selects "WaveLedger" y_Wl_run y_Wl_run ∈ mw_G lw_tbl := mw_G_in 604 (by decide +kernel) rfl
set_option maxRecDepth 100000 in
theorem wc_Wl_deliver : Cond.code y_Wl_deliver b_Wl_deliver 2 (some .boolean) ∈ mw_G lw_tbl := mw_G_in 382 (by rfl) rfl
theorem wm_Wl_deliver : Cond.instanceMethod y_Wl_deliver ∈ mw_G lw_tbl := mw_G_in 380 (by decide +kernel) rfl
theorem wv_Wl_deliver : Cond.selects "WaveLedger" y_Wl_deliver y_Wl_deliver ∈ mw_G lw_tbl := mw_G_in 381 (by decide +kernel) rfl
set_option maxRecDepth 100000 in
theorem wc_Wl_forge : Cond.code y_Wl_forge b_Wl_forge 6 (some .int) ∈ mw_G lw_tbl := mw_G_in 614 (by rfl) rfl
theorem wm_Wl_forge : Cond.instanceMethod y_Wl_forge ∈ mw_G lw_tbl := mw_G_in 612 (by decide +kernel) rfl
theorem wv_Wl_forge : Cond.selects "WaveLedger" y_Wl_forge y_Wl_forge ∈ mw_G lw_tbl := mw_G_in 613 (by decide +kernel) rfl
set_option maxRecDepth 100000 in
theorem wc_Wl_whisper : Cond.code y_Wl_whisper b_Wl_whisper 4 (some .int) ∈ mw_G lw_tbl := mw_G_in 632 (by rfl) rfl
theorem wm_Wl_whisper : Cond.instanceMethod y_Wl_whisper ∈ mw_G lw_tbl := mw_G_in 630 (by decide +kernel) rfl
theorem wv_Wl_whisper : Cond.selects "WaveLedger" y_Wl_whisper y_Wl_whisper ∈ mw_G lw_tbl := mw_G_in 631 (by decide +kernel) rfl
set_option maxRecDepth 100000 in
theorem wc_Wl_message : Cond.code y_Wl_message b_Wl_message 4 (some .int) ∈ mw_G lw_tbl := mw_G_in 459 (by rfl) rfl
theorem wm_Wl_message : Cond.instanceMethod y_Wl_message ∈ mw_G lw_tbl := mw_G_in 457 (by decide +kernel) rfl
theorem wv_Wl_message : Cond.selects "WaveLedger" y_Wl_message y_Wl_message ∈ mw_G lw_tbl := mw_G_in 458 (by decide +kernel) rfl
set_option maxRecDepth 100000 in
theorem wc_Wl_vertex : Cond.code y_Wl_vertex b_Wl_vertex 3 (some .int) ∈ mw_G lw_tbl := mw_G_in 463 (by rfl) rfl
theorem wm_Wl_vertex : Cond.instanceMethod y_Wl_vertex ∈ mw_G lw_tbl := mw_G_in 461 (by decide +kernel) rfl
theorem wv_Wl_vertex : Cond.selects "WaveLedger" y_Wl_vertex y_Wl_vertex ∈ mw_G lw_tbl := mw_G_in 462 (by decide +kernel) rfl
set_option maxRecDepth 100000 in
theorem wc_Wl_weak : Cond.code y_Wl_weak b_Wl_weak 2 (some .long) ∈ mw_G lw_tbl := mw_G_in 471 (by rfl) rfl
theorem wm_Wl_weak : Cond.instanceMethod y_Wl_weak ∈ mw_G lw_tbl := mw_G_in 469 (by decide +kernel) rfl
theorem wv_Wl_weak : Cond.selects "WaveLedger" y_Wl_weak y_Wl_weak ∈ mw_G lw_tbl := mw_G_in 470 (by decide +kernel) rfl
set_option maxRecDepth 100000 in
theorem wc_Wl_node : Cond.code y_Wl_node b_Wl_node 4 (some .int) ∈ mw_G lw_tbl := mw_G_in 476 (by rfl) rfl
theorem wm_Wl_node : Cond.instanceMethod y_Wl_node ∈ mw_G lw_tbl := mw_G_in 474 (by decide +kernel) rfl
theorem wv_Wl_node : Cond.selects "WaveLedger" y_Wl_node y_Wl_node ∈ mw_G lw_tbl := mw_G_in 475 (by decide +kernel) rfl
set_option maxRecDepth 100000 in
theorem wc_Wl_graph : Cond.code y_Wl_graph b_Wl_graph 4 (some .int) ∈ mw_G lw_tbl := mw_G_in 486 (by rfl) rfl
theorem wm_Wl_graph : Cond.instanceMethod y_Wl_graph ∈ mw_G lw_tbl := mw_G_in 484 (by decide +kernel) rfl
theorem wv_Wl_graph : Cond.selects "WaveLedger" y_Wl_graph y_Wl_graph ∈ mw_G lw_tbl := mw_G_in 485 (by decide +kernel) rfl
set_option maxRecDepth 100000 in
theorem wc_Wl_ordered : Cond.code y_Wl_ordered b_Wl_ordered 3 (some .int) ∈ mw_G lw_tbl := mw_G_in 491 (by rfl) rfl
theorem wm_Wl_ordered : Cond.instanceMethod y_Wl_ordered ∈ mw_G lw_tbl := mw_G_in 489 (by decide +kernel) rfl
theorem wv_Wl_ordered : Cond.selects "WaveLedger" y_Wl_ordered y_Wl_ordered ∈ mw_G lw_tbl := mw_G_in 490 (by decide +kernel) rfl
set_option maxRecDepth 100000 in
theorem wc_Wl_arrive : Cond.code y_Wl_arrive b_Wl_arrive 6 none ∈ mw_G lw_tbl := mw_G_in 390 (by rfl) rfl
theorem wm_Wl_arrive : Cond.instanceMethod y_Wl_arrive ∈ mw_G lw_tbl := mw_G_in 389 (by decide +kernel) rfl
theorem wv_Wl_arrive : Cond.selects "WaveLedger" y_Wl_arrive y_Wl_arrive ∈ mw_G lw_tbl := mw_G_in 6 (by decide +kernel) rfl
set_option maxRecDepth 100000 in
theorem wc_Wl_isActive : Cond.code y_Wl_isActive b_Wl_isActive 2 (some .boolean) ∈ mw_G lw_tbl := mw_G_in 275 (by rfl) rfl
theorem wm_Wl_isActive : Cond.instanceMethod y_Wl_isActive ∈ mw_G lw_tbl := mw_G_in 274 (by decide +kernel) rfl
theorem wv_Wl_isActive : Cond.selects "WaveLedger" y_Wl_isActive y_Wl_isActive ∈ mw_G lw_tbl := mw_G_in 0 (by decide +kernel) rfl
set_option maxRecDepth 100000 in
theorem wc_Wl_isNode : Cond.code y_Wl_isNode b_Wl_isNode 1 (some .boolean) ∈ mw_G lw_tbl := mw_G_in 64 (by rfl) rfl
theorem ws_Wl_isNode : Cond.static y_Wl_isNode ∈ mw_G lw_tbl := mw_G_in 63 (by decide +kernel) rfl
set_option maxRecDepth 100000 in
theorem wc_Wl_isAccount : Cond.code y_Wl_isAccount b_Wl_isAccount 1 (some .boolean) ∈ mw_G lw_tbl := mw_G_in 506 (by rfl) rfl
theorem ws_Wl_isAccount : Cond.static y_Wl_isAccount ∈ mw_G lw_tbl := mw_G_in 505 (by decide +kernel) rfl
set_option maxRecDepth 100000 in
theorem wc_Wl_isTransferOrNone : Cond.code y_Wl_isTransferOrNone b_Wl_isTransferOrNone 2 (some .boolean) ∈ mw_G lw_tbl := mw_G_in 619 (by rfl) rfl
theorem ws_Wl_isTransferOrNone : Cond.static y_Wl_isTransferOrNone ∈ mw_G lw_tbl := mw_G_in 618 (by decide +kernel) rfl
set_option maxRecDepth 100000 in
theorem wc_Wl_payerOf : Cond.code y_Wl_payerOf b_Wl_payerOf 1 (some .int) ∈ mw_G lw_tbl := mw_G_in 342 (by rfl) rfl
theorem ws_Wl_payerOf : Cond.static y_Wl_payerOf ∈ mw_G lw_tbl := mw_G_in 341 (by decide +kernel) rfl
set_option maxRecDepth 100000 in
theorem wc_Wl_payeeOf : Cond.code y_Wl_payeeOf b_Wl_payeeOf 1 (some .int) ∈ mw_G lw_tbl := mw_G_in 345 (by rfl) rfl
theorem ws_Wl_payeeOf : Cond.static y_Wl_payeeOf ∈ mw_G lw_tbl := mw_G_in 344 (by decide +kernel) rfl
set_option maxRecDepth 100000 in
theorem wc_Wl_numberOf : Cond.code y_Wl_numberOf b_Wl_numberOf 2 (some .int) ∈ mw_G lw_tbl := mw_G_in 290 (by rfl) rfl
theorem ws_Wl_numberOf : Cond.static y_Wl_numberOf ∈ mw_G lw_tbl := mw_G_in 289 (by decide +kernel) rfl
set_option maxRecDepth 100000 in
theorem wc_Wl_roundOf : Cond.code y_Wl_roundOf b_Wl_roundOf 1 (some .int) ∈ mw_G lw_tbl := mw_G_in 446 (by rfl) rfl
theorem ws_Wl_roundOf : Cond.static y_Wl_roundOf ∈ mw_G lw_tbl := mw_G_in 445 (by decide +kernel) rfl
set_option maxRecDepth 100000 in
theorem wc_Wl_bitOf : Cond.code y_Wl_bitOf b_Wl_bitOf 1 (some .long) ∈ mw_G lw_tbl := mw_G_in 332 (by rfl) rfl
theorem ws_Wl_bitOf : Cond.static y_Wl_bitOf ∈ mw_G lw_tbl := mw_G_in 331 (by decide +kernel) rfl
set_option maxRecDepth 100000 in
theorem wc_Wl_contains : Cond.code y_Wl_contains b_Wl_contains 3 (some .boolean) ∈ mw_G lw_tbl := mw_G_in 312 (by rfl) rfl
theorem ws_Wl_contains : Cond.static y_Wl_contains ∈ mw_G lw_tbl := mw_G_in 311 (by decide +kernel) rfl
set_option maxRecDepth 100000 in
theorem wc_Mo_init : Cond.code y_Mo_init b_Mo_init 5 none ∈ mw_G lw_tbl := mw_G_in 640 (by rfl) rfl
theorem wm_Mo_init : Cond.instanceMethod y_Mo_init ∈ mw_G lw_tbl := mw_G_in 639 (by decide +kernel) rfl
set_option maxRecDepth 100000 in
theorem wc_Mo_thrown : Cond.code y_Mo_thrown b_Mo_thrown 1 (some .int) ∈ mw_G lw_tbl := mw_G_in 734 (by rfl) rfl
theorem wm_Mo_thrown : Cond.instanceMethod y_Mo_thrown ∈ mw_G lw_tbl := mw_G_in 732 (by decide +kernel) rfl
theorem wv_Mo_thrown : Cond.selects "WaveLedgerModel" y_Mo_thrown y_Mo_thrown ∈ mw_G lw_tbl := mw_G_in 733 (by decide +kernel) rfl
set_option maxRecDepth 100000 in
theorem wc_Mo_refuse : Cond.code y_Mo_refuse b_Mo_refuse 2 (some .int) ∈ mw_G lw_tbl := mw_G_in 752 (by rfl) rfl
theorem wm_Mo_refuse : Cond.instanceMethod y_Mo_refuse ∈ mw_G lw_tbl := mw_G_in 751 (by decide +kernel) rfl
theorem wv_Mo_refuse : Cond.selects "WaveLedgerModel" y_Mo_refuse y_Mo_refuse ∈ mw_G lw_tbl := mw_G_in 11 (by decide +kernel) rfl
set_option maxRecDepth 100000 in
theorem wc_Mo_isNode : Cond.code y_Mo_isNode b_Mo_isNode 1 (some .boolean) ∈ mw_G lw_tbl := mw_G_in 741 (by rfl) rfl
theorem ws_Mo_isNode : Cond.static y_Mo_isNode ∈ mw_G lw_tbl := mw_G_in 740 (by decide +kernel) rfl
set_option maxRecDepth 100000 in
theorem wc_Mo_isFaulty : Cond.code y_Mo_isFaulty b_Mo_isFaulty 2 (some .boolean) ∈ mw_G lw_tbl := mw_G_in 745 (by rfl) rfl
theorem wm_Mo_isFaulty : Cond.instanceMethod y_Mo_isFaulty ∈ mw_G lw_tbl := mw_G_in 744 (by decide +kernel) rfl
theorem wv_Mo_isFaulty : Cond.selects "WaveLedgerModel" y_Mo_isFaulty y_Mo_isFaulty ∈ mw_G lw_tbl := mw_G_in 10 (by decide +kernel) rfl
set_option maxRecDepth 100000 in
theorem wc_Mo_draw : Cond.code y_Mo_draw b_Mo_draw 2 (some .int) ∈ mw_G lw_tbl := mw_G_in 823 (by rfl) rfl
theorem wm_Mo_draw : Cond.instanceMethod y_Mo_draw ∈ mw_G lw_tbl := mw_G_in 822 (by decide +kernel) rfl
theorem wv_Mo_draw : Cond.selects "WaveLedgerModel" y_Mo_draw y_Mo_draw ∈ mw_G lw_tbl := mw_G_in 26 (by decide +kernel) rfl
set_option maxRecDepth 100000 in
theorem wc_Mo_sendOne : Cond.code y_Mo_sendOne b_Mo_sendOne 5 none ∈ mw_G lw_tbl := mw_G_in 815 (by rfl) rfl
theorem wm_Mo_sendOne : Cond.instanceMethod y_Mo_sendOne ∈ mw_G lw_tbl := mw_G_in 814 (by decide +kernel) rfl
theorem wv_Mo_sendOne : Cond.selects "WaveLedgerModel" y_Mo_sendOne y_Mo_sendOne ∈ mw_G lw_tbl := mw_G_in 25 (by decide +kernel) rfl
set_option maxRecDepth 100000 in
theorem wc_Mo_broadcast : Cond.code y_Mo_broadcast b_Mo_broadcast 5 none ∈ mw_G lw_tbl := mw_G_in 811 (by rfl) rfl
theorem wm_Mo_broadcast : Cond.instanceMethod y_Mo_broadcast ∈ mw_G lw_tbl := mw_G_in 810 (by decide +kernel) rfl
theorem wv_Mo_broadcast : Cond.selects "WaveLedgerModel" y_Mo_broadcast y_Mo_broadcast ∈ mw_G lw_tbl := mw_G_in 24 (by decide +kernel) rfl
set_option maxRecDepth 100000 in
theorem wc_Mo_comes : Cond.code y_Mo_comes b_Mo_comes 8 none ∈ mw_G lw_tbl := mw_G_in 828 (by rfl) rfl
theorem wm_Mo_comes : Cond.instanceMethod y_Mo_comes ∈ mw_G lw_tbl := mw_G_in 827 (by decide +kernel) rfl
theorem wv_Mo_comes : Cond.selects "WaveLedgerModel" y_Mo_comes y_Mo_comes ∈ mw_G lw_tbl := mw_G_in 27 (by decide +kernel) rfl
set_option maxRecDepth 100000 in
theorem wc_Mo_sendComes : Cond.code y_Mo_sendComes b_Mo_sendComes 5 none ∈ mw_G lw_tbl := mw_G_in 832 (by rfl) rfl
theorem wm_Mo_sendComes : Cond.instanceMethod y_Mo_sendComes ∈ mw_G lw_tbl := mw_G_in 831 (by decide +kernel) rfl
theorem wv_Mo_sendComes : Cond.selects "WaveLedgerModel" y_Mo_sendComes y_Mo_sendComes ∈ mw_G lw_tbl := mw_G_in 28 (by decide +kernel) rfl
set_option maxRecDepth 100000 in
theorem wc_Mo_noted : Cond.code y_Mo_noted b_Mo_noted 5 (some .int) ∈ mw_G lw_tbl := mw_G_in 839 (by rfl) rfl
theorem ws_Mo_noted : Cond.static y_Mo_noted ∈ mw_G lw_tbl := mw_G_in 838 (by decide +kernel) rfl
set_option maxRecDepth 100000 in
theorem wc_Mo_ready : Cond.code y_Mo_ready b_Mo_ready 4 none ∈ mw_G lw_tbl := mw_G_in 843 (by rfl) rfl
theorem wm_Mo_ready : Cond.instanceMethod y_Mo_ready ∈ mw_G lw_tbl := mw_G_in 842 (by decide +kernel) rfl
theorem wv_Mo_ready : Cond.selects "WaveLedgerModel" y_Mo_ready y_Mo_ready ∈ mw_G lw_tbl := mw_G_in 30 (by decide +kernel) rfl
set_option maxRecDepth 100000 in
theorem wc_Mo_echoComes : Cond.code y_Mo_echoComes b_Mo_echoComes 5 none ∈ mw_G lw_tbl := mw_G_in 836 (by rfl) rfl
theorem wm_Mo_echoComes : Cond.instanceMethod y_Mo_echoComes ∈ mw_G lw_tbl := mw_G_in 835 (by decide +kernel) rfl
theorem wv_Mo_echoComes : Cond.selects "WaveLedgerModel" y_Mo_echoComes y_Mo_echoComes ∈ mw_G lw_tbl := mw_G_in 29 (by decide +kernel) rfl
set_option maxRecDepth 100000 in
theorem wc_Mo_readyComes : Cond.code y_Mo_readyComes b_Mo_readyComes 6 none ∈ mw_G lw_tbl := mw_G_in 847 (by rfl) rfl
theorem wm_Mo_readyComes : Cond.instanceMethod y_Mo_readyComes ∈ mw_G lw_tbl := mw_G_in 846 (by decide +kernel) rfl
theorem wv_Mo_readyComes : Cond.selects "WaveLedgerModel" y_Mo_readyComes y_Mo_readyComes ∈ mw_G lw_tbl := mw_G_in 31 (by decide +kernel) rfl
set_option maxRecDepth 100000 in
theorem wc_Mo_bits : Cond.code y_Mo_bits b_Mo_bits 1 (some .int) ∈ mw_G lw_tbl := mw_G_in 771 (by rfl) rfl
theorem ws_Mo_bits : Cond.static y_Mo_bits ∈ mw_G lw_tbl := mw_G_in 770 (by decide +kernel) rfl
set_option maxRecDepth 100000 in
theorem wc_Mo_isRight : Cond.code y_Mo_isRight b_Mo_isRight 5 (some .boolean) ∈ mw_G lw_tbl := mw_G_in 859 (by rfl) rfl
theorem wm_Mo_isRight : Cond.instanceMethod y_Mo_isRight ∈ mw_G lw_tbl := mw_G_in 858 (by decide +kernel) rfl
theorem wv_Mo_isRight : Cond.selects "WaveLedgerModel" y_Mo_isRight y_Mo_isRight ∈ mw_G lw_tbl := mw_G_in 34 (by decide +kernel) rfl
set_option maxRecDepth 100000 in
theorem wc_Mo_points : Cond.code y_Mo_points b_Mo_points 6 (some .long) ∈ mw_G lw_tbl := mw_G_in 787 (by rfl) rfl
theorem wm_Mo_points : Cond.instanceMethod y_Mo_points ∈ mw_G lw_tbl := mw_G_in 786 (by decide +kernel) rfl
theorem wv_Mo_points : Cond.selects "WaveLedgerModel" y_Mo_points y_Mo_points ∈ mw_G lw_tbl := mw_G_in 18 (by decide +kernel) rfl
set_option maxRecDepth 100000 in
theorem wc_Mo_graphOf : Cond.code y_Mo_graphOf b_Mo_graphOf 5 (some .long) ∈ mw_G lw_tbl := mw_G_in 855 (by rfl) rfl
theorem wm_Mo_graphOf : Cond.instanceMethod y_Mo_graphOf ∈ mw_G lw_tbl := mw_G_in 854 (by decide +kernel) rfl
theorem wv_Mo_graphOf : Cond.selects "WaveLedgerModel" y_Mo_graphOf y_Mo_graphOf ∈ mw_G lw_tbl := mw_G_in 33 (by decide +kernel) rfl
set_option maxRecDepth 100000 in
theorem wc_Mo_addAll : Cond.code y_Mo_addAll b_Mo_addAll 7 none ∈ mw_G lw_tbl := mw_G_in 851 (by rfl) rfl
theorem wm_Mo_addAll : Cond.instanceMethod y_Mo_addAll ∈ mw_G lw_tbl := mw_G_in 850 (by decide +kernel) rfl
theorem wv_Mo_addAll : Cond.selects "WaveLedgerModel" y_Mo_addAll y_Mo_addAll ∈ mw_G lw_tbl := mw_G_in 32 (by decide +kernel) rfl
set_option maxRecDepth 100000 in
theorem wc_Mo_below : Cond.code y_Mo_below b_Mo_below 9 (some .long) ∈ mw_G lw_tbl := mw_G_in 783 (by rfl) rfl
theorem wm_Mo_below : Cond.instanceMethod y_Mo_below ∈ mw_G lw_tbl := mw_G_in 782 (by decide +kernel) rfl
theorem wv_Mo_below : Cond.selects "WaveLedgerModel" y_Mo_below y_Mo_below ∈ mw_G lw_tbl := mw_G_in 17 (by decide +kernel) rfl
set_option maxRecDepth 100000 in
theorem wc_Mo_inRound : Cond.code y_Mo_inRound b_Mo_inRound 5 (some .int) ∈ mw_G lw_tbl := mw_G_in 768 (by rfl) rfl
theorem wm_Mo_inRound : Cond.instanceMethod y_Mo_inRound ∈ mw_G lw_tbl := mw_G_in 767 (by decide +kernel) rfl
theorem wv_Mo_inRound : Cond.selects "WaveLedgerModel" y_Mo_inRound y_Mo_inRound ∈ mw_G lw_tbl := mw_G_in 14 (by decide +kernel) rfl
set_option maxRecDepth 100000 in
theorem wc_Mo_leader : Cond.code y_Mo_leader b_Mo_leader 2 (some .int) ∈ mw_G lw_tbl := mw_G_in 779 (by rfl) rfl
theorem wm_Mo_leader : Cond.instanceMethod y_Mo_leader ∈ mw_G lw_tbl := mw_G_in 778 (by decide +kernel) rfl
theorem wv_Mo_leader : Cond.selects "WaveLedgerModel" y_Mo_leader y_Mo_leader ∈ mw_G lw_tbl := mw_G_in 16 (by decide +kernel) rfl
set_option maxRecDepth 100000 in
theorem wc_Mo_done : Cond.code y_Mo_done b_Mo_done 9 none ∈ mw_G lw_tbl := mw_G_in 775 (by rfl) rfl
theorem wm_Mo_done : Cond.instanceMethod y_Mo_done ∈ mw_G lw_tbl := mw_G_in 774 (by decide +kernel) rfl
theorem wv_Mo_done : Cond.selects "WaveLedgerModel" y_Mo_done y_Mo_done ∈ mw_G lw_tbl := mw_G_in 15 (by decide +kernel) rfl
set_option maxRecDepth 100000 in
theorem wc_Mo_orderBelow : Cond.code y_Mo_orderBelow b_Mo_orderBelow 7 none ∈ mw_G lw_tbl := mw_G_in 791 (by rfl) rfl
theorem wm_Mo_orderBelow : Cond.instanceMethod y_Mo_orderBelow ∈ mw_G lw_tbl := mw_G_in 790 (by decide +kernel) rfl
theorem wv_Mo_orderBelow : Cond.selects "WaveLedgerModel" y_Mo_orderBelow y_Mo_orderBelow ∈ mw_G lw_tbl := mw_G_in 19 (by decide +kernel) rfl
set_option maxRecDepth 100000 in
theorem wc_Mo_make : Cond.code y_Mo_make b_Mo_make 6 none ∈ mw_G lw_tbl := mw_G_in 795 (by rfl) rfl
theorem wm_Mo_make : Cond.instanceMethod y_Mo_make ∈ mw_G lw_tbl := mw_G_in 794 (by decide +kernel) rfl
theorem wv_Mo_make : Cond.selects "WaveLedgerModel" y_Mo_make y_Mo_make ∈ mw_G lw_tbl := mw_G_in 20 (by decide +kernel) rfl
set_option maxRecDepth 100000 in
theorem wc_Mo_newVertex : Cond.code y_Mo_newVertex b_Mo_newVertex 6 (some .int) ∈ mw_G lw_tbl := mw_G_in 807 (by rfl) rfl
theorem wm_Mo_newVertex : Cond.instanceMethod y_Mo_newVertex ∈ mw_G lw_tbl := mw_G_in 806 (by decide +kernel) rfl
theorem wv_Mo_newVertex : Cond.selects "WaveLedgerModel" y_Mo_newVertex y_Mo_newVertex ∈ mw_G lw_tbl := mw_G_in 23 (by decide +kernel) rfl
set_option maxRecDepth 100000 in
theorem wc_Mo_firstTransfer : Cond.code y_Mo_firstTransfer b_Mo_firstTransfer 4 (some .int) ∈ mw_G lw_tbl := mw_G_in 803 (by rfl) rfl
theorem wm_Mo_firstTransfer : Cond.instanceMethod y_Mo_firstTransfer ∈ mw_G lw_tbl := mw_G_in 802 (by decide +kernel) rfl
theorem wv_Mo_firstTransfer : Cond.selects "WaveLedgerModel" y_Mo_firstTransfer y_Mo_firstTransfer ∈ mw_G lw_tbl := mw_G_in 22 (by decide +kernel) rfl
set_option maxRecDepth 100000 in
theorem wc_Mo_makeVertex : Cond.code y_Mo_makeVertex b_Mo_makeVertex 11 none ∈ mw_G lw_tbl := mw_G_in 799 (by rfl) rfl
theorem wm_Mo_makeVertex : Cond.instanceMethod y_Mo_makeVertex ∈ mw_G lw_tbl := mw_G_in 798 (by decide +kernel) rfl
theorem wv_Mo_makeVertex : Cond.selects "WaveLedgerModel" y_Mo_makeVertex y_Mo_makeVertex ∈ mw_G lw_tbl := mw_G_in 21 (by decide +kernel) rfl
set_option maxRecDepth 100000 in
theorem wc_Mo_isFull : Cond.code y_Mo_isFull b_Mo_isFull 2 (some .boolean) ∈ mw_G lw_tbl := mw_G_in 764 (by rfl) rfl
theorem wm_Mo_isFull : Cond.instanceMethod y_Mo_isFull ∈ mw_G lw_tbl := mw_G_in 763 (by decide +kernel) rfl
theorem wv_Mo_isFull : Cond.selects "WaveLedgerModel" y_Mo_isFull y_Mo_isFull ∈ mw_G lw_tbl := mw_G_in 13 (by decide +kernel) rfl
set_option maxRecDepth 100000 in
theorem wc_Mo_goesOn : Cond.code y_Mo_goesOn b_Mo_goesOn 3 none ∈ mw_G lw_tbl := mw_G_in 760 (by rfl) rfl
theorem wm_Mo_goesOn : Cond.instanceMethod y_Mo_goesOn ∈ mw_G lw_tbl := mw_G_in 759 (by decide +kernel) rfl
theorem wv_Mo_goesOn : Cond.selects "WaveLedgerModel" y_Mo_goesOn y_Mo_goesOn ∈ mw_G lw_tbl := mw_G_in 12 (by decide +kernel) rfl
set_option maxRecDepth 100000 in
theorem wc_Mo_isTransfer : Cond.code y_Mo_isTransfer b_Mo_isTransfer 3 (some .boolean) ∈ mw_G lw_tbl := mw_G_in 748 (by rfl) rfl
theorem ws_Mo_isTransfer : Cond.static y_Mo_isTransfer ∈ mw_G lw_tbl := mw_G_in 747 (by decide +kernel) rfl
set_option maxRecDepth 100000 in
theorem wc_Mo_transfer : Cond.code y_Mo_transfer b_Mo_transfer 5 (some .int) ∈ mw_G lw_tbl := mw_G_in 738 (by rfl) rfl
theorem wm_Mo_transfer : Cond.instanceMethod y_Mo_transfer ∈ mw_G lw_tbl := mw_G_in 736 (by decide +kernel) rfl
theorem wv_Mo_transfer : Cond.selects "WaveLedgerModel" y_Mo_transfer y_Mo_transfer ∈ mw_G lw_tbl := mw_G_in 737 (by decide +kernel) rfl
set_option maxRecDepth 100000 in
theorem wc_Mo_begin : Cond.code y_Mo_begin b_Mo_begin 2 (some .boolean) ∈ mw_G lw_tbl := mw_G_in 756 (by rfl) rfl
theorem wm_Mo_begin : Cond.instanceMethod y_Mo_begin ∈ mw_G lw_tbl := mw_G_in 754 (by decide +kernel) rfl
theorem wv_Mo_begin : Cond.selects "WaveLedgerModel" y_Mo_begin y_Mo_begin ∈ mw_G lw_tbl := mw_G_in 755 (by decide +kernel) rfl
set_option maxRecDepth 100000 in
theorem wc_Mo_run : Cond.code y_Mo_run b_Mo_run 4 (some .int) ∈ mw_G lw_tbl := mw_G_in 819 (by rfl) rfl
theorem wm_Mo_run : Cond.instanceMethod y_Mo_run ∈ mw_G lw_tbl := mw_G_in 817 (by decide +kernel) rfl
theorem wv_Mo_run : Cond.selects "WaveLedgerModel" y_Mo_run y_Mo_run ∈ mw_G lw_tbl := mw_G_in 818 (by decide +kernel) rfl
set_option maxRecDepth 100000 in
theorem wc_Mo_deliver : Cond.code y_Mo_deliver b_Mo_deliver 2 (some .boolean) ∈ mw_G lw_tbl := mw_G_in 864 (by rfl) rfl
theorem wm_Mo_deliver : Cond.instanceMethod y_Mo_deliver ∈ mw_G lw_tbl := mw_G_in 862 (by decide +kernel) rfl
theorem wv_Mo_deliver : Cond.selects "WaveLedgerModel" y_Mo_deliver y_Mo_deliver ∈ mw_G lw_tbl := mw_G_in 863 (by decide +kernel) rfl
set_option maxRecDepth 100000 in
theorem wc_Mo_forge : Cond.code y_Mo_forge b_Mo_forge 7 (some .int) ∈ mw_G lw_tbl := mw_G_in 868 (by rfl) rfl
theorem wm_Mo_forge : Cond.instanceMethod y_Mo_forge ∈ mw_G lw_tbl := mw_G_in 866 (by decide +kernel) rfl
theorem wv_Mo_forge : Cond.selects "WaveLedgerModel" y_Mo_forge y_Mo_forge ∈ mw_G lw_tbl := mw_G_in 867 (by decide +kernel) rfl
set_option maxRecDepth 100000 in
theorem wc_Mo_whisper : Cond.code y_Mo_whisper b_Mo_whisper 4 (some .int) ∈ mw_G lw_tbl := mw_G_in 872 (by rfl) rfl
theorem wm_Mo_whisper : Cond.instanceMethod y_Mo_whisper ∈ mw_G lw_tbl := mw_G_in 870 (by decide +kernel) rfl
theorem wv_Mo_whisper : Cond.selects "WaveLedgerModel" y_Mo_whisper y_Mo_whisper ∈ mw_G lw_tbl := mw_G_in 871 (by decide +kernel) rfl
set_option maxRecDepth 100000 in
theorem wc_Mo_message : Cond.code y_Mo_message b_Mo_message 4 (some .int) ∈ mw_G lw_tbl := mw_G_in 876 (by rfl) rfl
theorem wm_Mo_message : Cond.instanceMethod y_Mo_message ∈ mw_G lw_tbl := mw_G_in 874 (by decide +kernel) rfl
theorem wv_Mo_message : Cond.selects "WaveLedgerModel" y_Mo_message y_Mo_message ∈ mw_G lw_tbl := mw_G_in 875 (by decide +kernel) rfl
set_option maxRecDepth 100000 in
theorem wc_Mo_vertex : Cond.code y_Mo_vertex b_Mo_vertex 3 (some .int) ∈ mw_G lw_tbl := mw_G_in 880 (by rfl) rfl
theorem wm_Mo_vertex : Cond.instanceMethod y_Mo_vertex ∈ mw_G lw_tbl := mw_G_in 878 (by decide +kernel) rfl
theorem wv_Mo_vertex : Cond.selects "WaveLedgerModel" y_Mo_vertex y_Mo_vertex ∈ mw_G lw_tbl := mw_G_in 879 (by decide +kernel) rfl
set_option maxRecDepth 100000 in
theorem wc_Mo_weak : Cond.code y_Mo_weak b_Mo_weak 2 (some .long) ∈ mw_G lw_tbl := mw_G_in 884 (by rfl) rfl
theorem wm_Mo_weak : Cond.instanceMethod y_Mo_weak ∈ mw_G lw_tbl := mw_G_in 882 (by decide +kernel) rfl
theorem wv_Mo_weak : Cond.selects "WaveLedgerModel" y_Mo_weak y_Mo_weak ∈ mw_G lw_tbl := mw_G_in 883 (by decide +kernel) rfl
set_option maxRecDepth 100000 in
theorem wc_Mo_graphSize : Cond.code y_Mo_graphSize b_Mo_graphSize 4 (some .int) ∈ mw_G lw_tbl := mw_G_in 892 (by rfl) rfl
theorem wm_Mo_graphSize : Cond.instanceMethod y_Mo_graphSize ∈ mw_G lw_tbl := mw_G_in 891 (by decide +kernel) rfl
theorem wv_Mo_graphSize : Cond.selects "WaveLedgerModel" y_Mo_graphSize y_Mo_graphSize ∈ mw_G lw_tbl := mw_G_in 35 (by decide +kernel) rfl
set_option maxRecDepth 100000 in
theorem wc_Mo_node : Cond.code y_Mo_node b_Mo_node 3 (some .int) ∈ mw_G lw_tbl := mw_G_in 888 (by rfl) rfl
theorem wm_Mo_node : Cond.instanceMethod y_Mo_node ∈ mw_G lw_tbl := mw_G_in 886 (by decide +kernel) rfl
theorem wv_Mo_node : Cond.selects "WaveLedgerModel" y_Mo_node y_Mo_node ∈ mw_G lw_tbl := mw_G_in 887 (by decide +kernel) rfl
set_option maxRecDepth 100000 in
theorem wc_Mo_graph : Cond.code y_Mo_graph b_Mo_graph 4 (some .int) ∈ mw_G lw_tbl := mw_G_in 896 (by rfl) rfl
theorem wm_Mo_graph : Cond.instanceMethod y_Mo_graph ∈ mw_G lw_tbl := mw_G_in 894 (by decide +kernel) rfl
theorem wv_Mo_graph : Cond.selects "WaveLedgerModel" y_Mo_graph y_Mo_graph ∈ mw_G lw_tbl := mw_G_in 895 (by decide +kernel) rfl
set_option maxRecDepth 100000 in
theorem wc_Mo_ordered : Cond.code y_Mo_ordered b_Mo_ordered 3 (some .int) ∈ mw_G lw_tbl := mw_G_in 900 (by rfl) rfl
theorem wm_Mo_ordered : Cond.instanceMethod y_Mo_ordered ∈ mw_G lw_tbl := mw_G_in 898 (by decide +kernel) rfl
theorem wv_Mo_ordered : Cond.selects "WaveLedgerModel" y_Mo_ordered y_Mo_ordered ∈ mw_G lw_tbl := mw_G_in 899 (by decide +kernel) rfl
set_option maxRecDepth 100000 in
theorem wc_La_cell : Cond.code y_La_cell b_La_cell 2 (some .int) ∈ mw_G lw_tbl := mw_G_in 494 (by rfl) rfl
theorem ws_La_cell : Cond.static y_La_cell ∈ mw_G lw_tbl := mw_G_in 493 (by decide +kernel) rfl
theorem ws_La_transfer : Cond.static y_La_transfer ∈ mw_G lw_tbl := mw_G_in 496 (by decide +kernel) rfl
theorem ws_La_run : Cond.static y_La_run ∈ mw_G lw_tbl := mw_G_in 600 (by decide +kernel) rfl
theorem ws_La_forge : Cond.static y_La_forge ∈ mw_G lw_tbl := mw_G_in 609 (by decide +kernel) rfl
theorem ws_La_whisper : Cond.static y_La_whisper ∈ mw_G lw_tbl := mw_G_in 627 (by decide +kernel) rfl
set_option maxRecDepth 100000 in
theorem wc_In_bitCount : Cond.code y_In_bitCount b_In_bitCount 1 (some .int) ∈ mw_G lw_tbl := mw_G_in 293 (by rfl) rfl
theorem ws_In_bitCount : Cond.static y_In_bitCount ∈ mw_G lw_tbl := mw_G_in 292 (by decide +kernel) rfl
set_option maxRecDepth 100000 in
theorem wc_Lo_bitCount : Cond.code y_Lo_bitCount b_Lo_bitCount 2 (some .int) ∈ mw_G lw_tbl := mw_G_in 479 (by rfl) rfl
theorem ws_Lo_bitCount : Cond.static y_Lo_bitCount ∈ mw_G lw_tbl := mw_G_in 478 (by decide +kernel) rfl
theorem f_Bo_9 : mw_F "WaveLedger$Book" lw_tbl vCl 9 0 0 := ⟨R_Bo, T_Bo, 4, rfl, by decide, wu_Bo, rfl, Or.inl (mw_G_in 128 (by decide +kernel) rfl)⟩
theorem f_Bo_15 : mw_F "WaveLedger$Book" lw_tbl vCl 15 0 1 := ⟨R_Bo, T_Bo, 4, rfl, by decide, wu_Bo, rfl, Or.inl (mw_G_in 130 (by decide +kernel) rfl)⟩
theorem f_Bo_18 : mw_F "WaveLedger$Book" lw_tbl vCl 18 0 3 := ⟨R_Bo, T_Bo, 4, rfl, by decide, wu_Bo, rfl, Or.inl (mw_G_in 134 (by decide +kernel) rfl)⟩
theorem f_Bo_22 : mw_F "WaveLedger$Book" lw_tbl vCl 22 0 2 := ⟨R_Bo, T_Bo, 4, rfl, by decide, wu_Bo, rfl, Or.inl (mw_G_in 132 (by decide +kernel) rfl)⟩
theorem kb_Bo_26 : mw_KB lw_tbl "WaveLedger$Book" 26 y_Wl_bitOf b_Wl_bitOf 1 (some .long) 1 := ⟨wc_Wl_bitOf, wi_Wl, by decide +kernel, Or.inr ⟨"WaveLedger", mw_N_in 339 (by decide +kernel) rfl⟩⟩
theorem kb_Bo_30 : mw_KB lw_tbl "WaveLedger$Book" 30 y_Wl_payerOf b_Wl_payerOf 1 (some .int) 1 := ⟨wc_Wl_payerOf, wi_Wl, by decide +kernel, Or.inr ⟨"WaveLedger", mw_N_in 340 (by decide +kernel) rfl⟩⟩
theorem kb_Bo_34 : mw_KB lw_tbl "WaveLedger$Book" 34 y_Wl_payeeOf b_Wl_payeeOf 1 (some .int) 1 := ⟨wc_Wl_payeeOf, wi_Wl, by decide +kernel, Or.inr ⟨"WaveLedger", mw_N_in 343 (by decide +kernel) rfl⟩⟩
theorem f_Gr_9 : mw_F "WaveLedger$Graph" lw_tbl vCl 9 1 1 := ⟨R_Gr, T_Gr, 5, rfl, by decide, wu_Gr, rfl, Or.inl (mw_G_in 176 (by decide +kernel) rfl)⟩
theorem f_Gr_15 : mw_F "WaveLedger$Graph" lw_tbl vCl 15 1 2 := ⟨R_Gr, T_Gr, 5, rfl, by decide, wu_Gr, rfl, Or.inl (mw_G_in 179 (by decide +kernel) rfl)⟩
theorem f_Gr_19 : mw_F "WaveLedger$Graph" lw_tbl vCl 19 1 3 := ⟨R_Gr, T_Gr, 5, rfl, by decide, wu_Gr, rfl, Or.inl (mw_G_in 181 (by decide +kernel) rfl)⟩
theorem f_Gr_22 : mw_F "WaveLedger$Graph" lw_tbl vCl 22 1 0 := ⟨R_Gr, T_Gr, 5, rfl, by decide, wu_Gr, rfl, Or.inl (mw_G_in 175 (by decide +kernel) rfl)⟩
theorem f_Gr_26 : mw_F "WaveLedger$Graph" lw_tbl vCl 26 1 4 := ⟨R_Gr, T_Gr, 5, rfl, by decide, wu_Gr, rfl, Or.inl (mw_G_in 182 (by decide +kernel) rfl)⟩
theorem kb_Gr_30 : mw_KB lw_tbl "WaveLedger$Graph" 30 y_Wl_contains b_Wl_contains 3 (some .boolean) 2 := ⟨wc_Wl_contains, wi_Wl, by decide +kernel, Or.inr ⟨"WaveLedger", mw_N_in 310 (by decide +kernel) rfl⟩⟩
theorem f_Gr_34 : mw_F "WaveLedger$Graph" lw_tbl vCl 34 5 0 := ⟨R_Ve, T_Ve, 5, rfl, by decide, wu_Ve, rfl, Or.inr ⟨"WaveLedger", mw_N_in 73 (by decide +kernel) rfl⟩⟩
theorem kb_Gr_39 : mw_KB lw_tbl "WaveLedger$Graph" 39 y_Gr_has b_Gr_has 2 (some .boolean) 1 := ⟨wc_Gr_has, wi_Gr, by decide +kernel, Or.inl (mw_G_in 358 (by decide +kernel) rfl)⟩
theorem kb_Gr_43 : mw_KB lw_tbl "WaveLedger$Graph" 43 y_Gr_addIfAllowed b_Gr_addIfAllowed 7 none 1 := ⟨wc_Gr_addIfAllowed, wi_Gr, by decide +kernel, Or.inl (mw_G_in 436 (by decide +kernel) rfl)⟩
theorem kb_Gr_47 : mw_KB lw_tbl "WaveLedger$Graph" 47 y_Ve_isRight b_Ve_isRight 5 (some .boolean) 1 := ⟨wc_Ve_isRight, wi_Ve, by decide +kernel, Or.inl (mw_G_in 440 (by decide +kernel) rfl)⟩
theorem kb_Gr_50 : mw_KB lw_tbl "WaveLedger$Graph" 50 y_Ve_strongPlacesOf b_Ve_strongPlacesOf 3 (some .long) 1 := ⟨wc_Ve_strongPlacesOf, wi_Ve, by decide +kernel, Or.inl (mw_G_in 451 (by decide +kernel) rfl)⟩
theorem f_Gr_54 : mw_F "WaveLedger$Graph" lw_tbl vCl 54 5 2 := ⟨R_Ve, T_Ve, 5, rfl, by decide, wu_Ve, rfl, Or.inr ⟨"WaveLedger", mw_N_in 78 (by decide +kernel) rfl⟩⟩
theorem kc_Gr_57 : Cond.constantLong "WaveLedger$Graph" 57 (-1 : Int64) ∈ mw_G lw_tbl := mw_G_in 455 (by decide +kernel) rfl
theorem kb_Gr_59 : mw_KB lw_tbl "WaveLedger$Graph" 59 y_Gr_follow b_Gr_follow 6 (some .long) 2 := ⟨wc_Gr_follow, wi_Gr, by decide +kernel, Or.inl (mw_G_in 355 (by decide +kernel) rfl)⟩
theorem kb_Gr_63 : mw_KB lw_tbl "WaveLedger$Graph" 63 y_Wl_bitOf b_Wl_bitOf 1 (some .long) 1 := ⟨wc_Wl_bitOf, wi_Wl, by decide +kernel, Or.inr ⟨"WaveLedger", mw_N_in 359 (by decide +kernel) rfl⟩⟩
theorem kb_Gr_66 : mw_KB lw_tbl "WaveLedger$Graph" 66 y_Wl_numberOf b_Wl_numberOf 2 (some .int) 2 := ⟨wc_Wl_numberOf, wi_Wl, by decide +kernel, Or.inr ⟨"WaveLedger", mw_N_in 288 (by decide +kernel) rfl⟩⟩
theorem kb_Gr_70 : mw_KB lw_tbl "WaveLedger$Graph" 70 y_Gr_nodesIn b_Gr_nodesIn 2 (some .int) 1 := ⟨wc_Gr_nodesIn, wi_Gr, by decide +kernel, Or.inl (mw_G_in 284 (by decide +kernel) rfl)⟩
theorem kb_Gr_74 : mw_KB lw_tbl "WaveLedger$Graph" 74 y_In_bitCount b_In_bitCount 1 (some .int) 1 := ⟨wc_In_bitCount, wi_In, by decide +kernel, Or.inl (mw_G_in 291 (by decide +kernel) rfl)⟩
theorem kb_Gr_79 : mw_KB lw_tbl "WaveLedger$Graph" 79 y_Gr_leadsStrongly b_Gr_leadsStrongly 3 (some .boolean) 2 := ⟨wc_Gr_leadsStrongly, wi_Gr, by decide +kernel, Or.inl (mw_G_in 317 (by decide +kernel) rfl)⟩
theorem f_Ma_9 : mw_F "WaveLedger$Mail" lw_tbl vCl 9 2 1 := ⟨R_Ma, T_Ma, 3, rfl, by decide, wu_Ma, rfl, Or.inl (mw_G_in 104 (by decide +kernel) rfl)⟩
theorem f_Ma_15 : mw_F "WaveLedger$Mail" lw_tbl vCl 15 2 0 := ⟨R_Ma, T_Ma, 3, rfl, by decide, wu_Ma, rfl, Or.inl (mw_G_in 103 (by decide +kernel) rfl)⟩
theorem f_Ma_19 : mw_F "WaveLedger$Mail" lw_tbl vCl 19 2 2 := ⟨R_Ma, T_Ma, 3, rfl, by decide, wu_Ma, rfl, Or.inl (mw_G_in 106 (by decide +kernel) rfl)⟩
theorem kb_Ma_22 : mw_KB lw_tbl "WaveLedger$Mail" 22 y_Ma_send b_Ma_send 5 none 4 := ⟨wc_Ma_send, wi_Ma, by decide +kernel, Or.inl (mw_G_in 375 (by decide +kernel) rfl)⟩
theorem kl_Ma_26 : Cond.methodLink "WaveLedger$Mail" 26 arraycopyName ∈ mw_G lw_tbl := mw_G_in 395 (by decide +kernel) rfl
theorem kb_No_11 : mw_KB lw_tbl "WaveLedger$Node" 11 y_Bo_init b_Bo_init 2 none 0 := ⟨wc_Bo_init, wi_Bo, by decide +kernel, Or.inl (mw_G_in 124 (by decide +kernel) rfl)⟩
theorem f_No_12 : mw_F "WaveLedger$Node" lw_tbl vCl 12 3 5 := ⟨R_No, T_No, 15, rfl, by decide, wu_No, rfl, Or.inl (mw_G_in 201 (by decide +kernel) rfl)⟩
theorem kb_No_20 : mw_KB lw_tbl "WaveLedger$Node" 20 y_Tq_init b_Tq_init 1 none 0 := ⟨wc_Tq_init, wi_Tq, by decide +kernel, Or.inr ⟨"WaveLedger", mw_N_in 147 (by decide +kernel) rfl⟩⟩
theorem f_No_21 : mw_F "WaveLedger$Node" lw_tbl vCl 21 3 6 := ⟨R_No, T_No, 15, rfl, by decide, wu_No, rfl, Or.inl (mw_G_in 203 (by decide +kernel) rfl)⟩
theorem kb_No_27 : mw_KB lw_tbl "WaveLedger$Node" 27 y_Vo_init b_Vo_init 1 none 0 := ⟨wc_Vo_init, wi_Vo, by decide +kernel, Or.inr ⟨"WaveLedger", mw_N_in 161 (by decide +kernel) rfl⟩⟩
theorem f_No_28 : mw_F "WaveLedger$Node" lw_tbl vCl 28 3 7 := ⟨R_No, T_No, 15, rfl, by decide, wu_No, rfl, Or.inl (mw_G_in 205 (by decide +kernel) rfl)⟩
theorem f_No_32 : mw_F "WaveLedger$Node" lw_tbl vCl 32 3 8 := ⟨R_No, T_No, 15, rfl, by decide, wu_No, rfl, Or.inl (mw_G_in 206 (by decide +kernel) rfl)⟩
theorem f_No_35 : mw_F "WaveLedger$Node" lw_tbl vCl 35 3 9 := ⟨R_No, T_No, 15, rfl, by decide, wu_No, rfl, Or.inl (mw_G_in 207 (by decide +kernel) rfl)⟩
theorem f_No_39 : mw_F "WaveLedger$Node" lw_tbl vCl 39 3 0 := ⟨R_No, T_No, 15, rfl, by decide, wu_No, rfl, Or.inl (mw_G_in 195 (by decide +kernel) rfl)⟩
theorem f_No_43 : mw_F "WaveLedger$Node" lw_tbl vCl 43 3 1 := ⟨R_No, T_No, 15, rfl, by decide, wu_No, rfl, Or.inl (mw_G_in 196 (by decide +kernel) rfl)⟩
theorem f_No_46 : mw_F "WaveLedger$Node" lw_tbl vCl 46 3 2 := ⟨R_No, T_No, 15, rfl, by decide, wu_No, rfl, Or.inl (mw_G_in 197 (by decide +kernel) rfl)⟩
theorem f_No_50 : mw_F "WaveLedger$Node" lw_tbl vCl 50 3 3 := ⟨R_No, T_No, 15, rfl, by decide, wu_No, rfl, Or.inl (mw_G_in 198 (by decide +kernel) rfl)⟩
theorem kb_No_56 : mw_KB lw_tbl "WaveLedger$Node" 56 y_Gr_init b_Gr_init 2 none 1 := ⟨wc_Gr_init, wi_Gr, by decide +kernel, Or.inl (mw_G_in 171 (by decide +kernel) rfl)⟩
theorem f_No_59 : mw_F "WaveLedger$Node" lw_tbl vCl 59 3 4 := ⟨R_No, T_No, 15, rfl, by decide, wu_No, rfl, Or.inl (mw_G_in 199 (by decide +kernel) rfl)⟩
theorem f_No_63 : mw_F "WaveLedger$Node" lw_tbl vCl 63 5 0 := ⟨R_Ve, T_Ve, 5, rfl, by decide, wu_Ve, rfl, Or.inr ⟨"WaveLedger", mw_N_in 72 (by decide +kernel) rfl⟩⟩
theorem kb_No_68 : mw_KB lw_tbl "WaveLedger$Node" 68 y_Ve_sourceOf b_Ve_sourceOf 2 (some .int) 1 := ⟨wc_Ve_sourceOf, wi_Ve, by decide +kernel, Or.inl (mw_G_in 412 (by decide +kernel) rfl)⟩
theorem f_No_72 : mw_F "WaveLedger$Node" lw_tbl vCl 72 3 10 := ⟨R_No, T_No, 15, rfl, by decide, wu_No, rfl, Or.inl (mw_G_in 208 (by decide +kernel) rfl)⟩
theorem kb_No_76 : mw_KB lw_tbl "WaveLedger$Node" 76 y_Wl_contains b_Wl_contains 3 (some .boolean) 2 := ⟨wc_Wl_contains, wi_Wl, by decide +kernel, Or.inr ⟨"WaveLedger", mw_N_in 334 (by decide +kernel) rfl⟩⟩
theorem kb_No_80 : mw_KB lw_tbl "WaveLedger$Node" 80 y_Wl_bitOf b_Wl_bitOf 1 (some .long) 1 := ⟨wc_Wl_bitOf, wi_Wl, by decide +kernel, Or.inr ⟨"WaveLedger", mw_N_in 330 (by decide +kernel) rfl⟩⟩
theorem kb_No_84 : mw_KB lw_tbl "WaveLedger$Node" 84 y_Ma_broadcast b_Ma_broadcast 5 none 3 := ⟨wc_Ma_broadcast, wi_Ma, by decide +kernel, Or.inl (mw_G_in 371 (by decide +kernel) rfl)⟩
theorem kb_No_90 : mw_KB lw_tbl "WaveLedger$Node" 90 y_Vo_note b_Vo_note 7 (some .int) 3 := ⟨wc_Vo_note, wi_Vo, by decide +kernel, Or.inl (mw_G_in 420 (by decide +kernel) rfl)⟩
theorem kb_No_94 : mw_KB lw_tbl "WaveLedger$Node" 94 y_No_broadcastReadyOnce b_No_broadcastReadyOnce 3 none 2 := ⟨wc_No_broadcastReadyOnce, wi_No, by decide +kernel, Or.inl (mw_G_in 424 (by decide +kernel) rfl)⟩
theorem f_No_98 : mw_F "WaveLedger$Node" lw_tbl vCl 98 1 1 := ⟨R_Gr, T_Gr, 5, rfl, by decide, wu_Gr, rfl, Or.inr ⟨"WaveLedger", mw_N_in 177 (by decide +kernel) rfl⟩⟩
theorem kb_No_101 : mw_KB lw_tbl "WaveLedger$Node" 101 y_Gr_accept b_Gr_accept 3 none 1 := ⟨wc_Gr_accept, wi_Gr, by decide +kernel, Or.inl (mw_G_in 432 (by decide +kernel) rfl)⟩
theorem f_No_105 : mw_F "WaveLedger$Node" lw_tbl vCl 105 3 11 := ⟨R_No, T_No, 15, rfl, by decide, wu_No, rfl, Or.inl (mw_G_in 209 (by decide +kernel) rfl)⟩
theorem f_No_108 : mw_F "WaveLedger$Node" lw_tbl vCl 108 3 12 := ⟨R_No, T_No, 15, rfl, by decide, wu_No, rfl, Or.inl (mw_G_in 210 (by decide +kernel) rfl)⟩
theorem kb_No_111 : mw_KB lw_tbl "WaveLedger$Node" 111 y_Gr_hasQuorumIn b_Gr_hasQuorumIn 2 (some .boolean) 1 := ⟨wc_Gr_hasQuorumIn, wi_Gr, by decide +kernel, Or.inl (mw_G_in 280 (by decide +kernel) rfl)⟩
theorem kb_No_115 : mw_KB lw_tbl "WaveLedger$Node" 115 y_No_mayCommit b_No_mayCommit 3 (some .boolean) 1 := ⟨wc_No_mayCommit, wi_No, by decide +kernel, Or.inl (mw_G_in 297 (by decide +kernel) rfl)⟩
theorem kb_No_118 : mw_KB lw_tbl "WaveLedger$Node" 118 y_No_commit b_No_commit 5 none 1 := ⟨wc_No_commit, wi_No, by decide +kernel, Or.inl (mw_G_in 321 (by decide +kernel) rfl)⟩
theorem kb_No_121 : mw_KB lw_tbl "WaveLedger$Node" 121 y_No_broadcastOwnVertex b_No_broadcastOwnVertex 6 none 0 := ⟨wc_No_broadcastOwnVertex, wi_No, by decide +kernel, Or.inl (mw_G_in 346 (by decide +kernel) rfl)⟩
theorem f_No_124 : mw_F "WaveLedger$Node" lw_tbl vCl 124 3 14 := ⟨R_No, T_No, 15, rfl, by decide, wu_No, rfl, Or.inl (mw_G_in 214 (by decide +kernel) rfl)⟩
theorem kb_No_128 : mw_KB lw_tbl "WaveLedger$Node" 128 y_Gr_nodesIn b_Gr_nodesIn 2 (some .int) 1 := ⟨wc_Gr_nodesIn, wi_Gr, by decide +kernel, Or.inl (mw_G_in 350 (by decide +kernel) rfl)⟩
theorem kb_No_131 : mw_KB lw_tbl "WaveLedger$Node" 131 y_Gr_weakPlacesFor b_Gr_weakPlacesFor 11 (some .long) 1 := ⟨wc_Gr_weakPlacesFor, wi_Gr, by decide +kernel, Or.inl (mw_G_in 351 (by decide +kernel) rfl)⟩
theorem kb_No_134 : mw_KB lw_tbl "WaveLedger$Node" 134 y_Wl_numberOf b_Wl_numberOf 2 (some .int) 2 := ⟨wc_Wl_numberOf, wi_Wl, by decide +kernel, Or.inr ⟨"WaveLedger", mw_N_in 305 (by decide +kernel) rfl⟩⟩
theorem kb_No_138 : mw_KB lw_tbl "WaveLedger$Node" 138 y_Tq_takeFirstOrNone b_Tq_takeFirstOrNone 2 (some .int) 0 := ⟨wc_Tq_takeFirstOrNone, wi_Tq, by decide +kernel, Or.inl (mw_G_in 360 (by decide +kernel) rfl)⟩
theorem kb_No_142 : mw_KB lw_tbl "WaveLedger$Node" 142 y_Ve_make b_Ve_make 6 (some .int) 4 := ⟨wc_Ve_make, wi_Ve, by decide +kernel, Or.inl (mw_G_in 367 (by decide +kernel) rfl)⟩
theorem kb_No_146 : mw_KB lw_tbl "WaveLedger$Node" 146 y_No_leaderOf b_No_leaderOf 3 (some .int) 1 := ⟨wc_No_leaderOf, wi_No, by decide +kernel, Or.inl (mw_G_in 301 (by decide +kernel) rfl)⟩
theorem kb_No_149 : mw_KB lw_tbl "WaveLedger$Node" 149 y_Gr_has b_Gr_has 2 (some .boolean) 1 := ⟨wc_Gr_has, wi_Gr, by decide +kernel, Or.inl (mw_G_in 306 (by decide +kernel) rfl)⟩
theorem kb_No_152 : mw_KB lw_tbl "WaveLedger$Node" 152 y_Gr_supportFrom b_Gr_supportFrom 5 (some .int) 2 := ⟨wc_Gr_supportFrom, wi_Gr, by decide +kernel, Or.inl (mw_G_in 313 (by decide +kernel) rfl)⟩
theorem f_No_155 : mw_F "WaveLedger$Node" lw_tbl vCl 155 3 13 := ⟨R_No, T_No, 15, rfl, by decide, wu_No, rfl, Or.inl (mw_G_in 212 (by decide +kernel) rfl)⟩
theorem kb_No_158 : mw_KB lw_tbl "WaveLedger$Node" 158 y_Gr_leadsStrongly b_Gr_leadsStrongly 3 (some .boolean) 2 := ⟨wc_Gr_leadsStrongly, wi_Gr, by decide +kernel, Or.inl (mw_G_in 325 (by decide +kernel) rfl)⟩
theorem kb_No_162 : mw_KB lw_tbl "WaveLedger$Node" 162 y_No_orderFrom b_No_orderFrom 5 none 1 := ⟨wc_No_orderFrom, wi_No, by decide +kernel, Or.inl (mw_G_in 326 (by decide +kernel) rfl)⟩
theorem f_No_165 : mw_F "WaveLedger$Node" lw_tbl vCl 165 1 2 := ⟨R_Gr, T_Gr, 5, rfl, by decide, wu_Gr, rfl, Or.inr ⟨"WaveLedger", mw_N_in 180 (by decide +kernel) rfl⟩⟩
theorem f_No_169 : mw_F "WaveLedger$Node" lw_tbl vCl 169 0 2 := ⟨R_Bo, T_Bo, 4, rfl, by decide, wu_Bo, rfl, Or.inr ⟨"WaveLedger", mw_N_in 133 (by decide +kernel) rfl⟩⟩
theorem kc_No_172 : Cond.constantLong "WaveLedger$Node" 172 (-1 : Int64) ∈ mw_G lw_tbl := mw_G_in 333 (by decide +kernel) rfl
theorem f_No_174 : mw_F "WaveLedger$Node" lw_tbl vCl 174 5 3 := ⟨R_Ve, T_Ve, 5, rfl, by decide, wu_Ve, rfl, Or.inr ⟨"WaveLedger", mw_N_in 82 (by decide +kernel) rfl⟩⟩
theorem kb_No_177 : mw_KB lw_tbl "WaveLedger$Node" 177 y_Bo_enter b_Bo_enter 4 none 2 := ⟨wc_Bo_enter, wi_Bo, by decide +kernel, Or.inl (mw_G_in 335 (by decide +kernel) rfl)⟩
theorem f_Tq_9 : mw_F "WaveLedger$TransferQueue" lw_tbl vCl 9 4 0 := ⟨R_Tq, T_Tq, 2, rfl, by decide, wu_Tq, rfl, Or.inl (mw_G_in 151 (by decide +kernel) rfl)⟩
theorem f_Tq_15 : mw_F "WaveLedger$TransferQueue" lw_tbl vCl 15 4 1 := ⟨R_Tq, T_Tq, 2, rfl, by decide, wu_Tq, rfl, Or.inl (mw_G_in 152 (by decide +kernel) rfl)⟩
theorem kl_Tq_19 : Cond.methodLink "WaveLedger$TransferQueue" 19 arraycopyName ∈ mw_G lw_tbl := mw_G_in 364 (by decide +kernel) rfl
theorem f_Ve_9 : mw_F "WaveLedger$Vertices" lw_tbl vCl 9 5 0 := ⟨R_Ve, T_Ve, 5, rfl, by decide, wu_Ve, rfl, Or.inl (mw_G_in 71 (by decide +kernel) rfl)⟩
theorem f_Ve_15 : mw_F "WaveLedger$Vertices" lw_tbl vCl 15 5 1 := ⟨R_Ve, T_Ve, 5, rfl, by decide, wu_Ve, rfl, Or.inl (mw_G_in 75 (by decide +kernel) rfl)⟩
theorem f_Ve_18 : mw_F "WaveLedger$Vertices" lw_tbl vCl 18 5 2 := ⟨R_Ve, T_Ve, 5, rfl, by decide, wu_Ve, rfl, Or.inl (mw_G_in 77 (by decide +kernel) rfl)⟩
theorem f_Ve_22 : mw_F "WaveLedger$Vertices" lw_tbl vCl 22 5 3 := ⟨R_Ve, T_Ve, 5, rfl, by decide, wu_Ve, rfl, Or.inl (mw_G_in 80 (by decide +kernel) rfl)⟩
theorem f_Ve_25 : mw_F "WaveLedger$Vertices" lw_tbl vCl 25 5 4 := ⟨R_Ve, T_Ve, 5, rfl, by decide, wu_Ve, rfl, Or.inl (mw_G_in 83 (by decide +kernel) rfl)⟩
theorem kb_Ve_29 : mw_KB lw_tbl "WaveLedger$Vertices" 29 y_Wl_roundOf b_Wl_roundOf 1 (some .int) 1 := ⟨wc_Wl_roundOf, wi_Wl, by decide +kernel, Or.inr ⟨"WaveLedger", mw_N_in 444 (by decide +kernel) rfl⟩⟩
theorem kb_Ve_33 : mw_KB lw_tbl "WaveLedger$Vertices" 33 y_Wl_numberOf b_Wl_numberOf 2 (some .int) 2 := ⟨wc_Wl_numberOf, wi_Wl, by decide +kernel, Or.inr ⟨"WaveLedger", mw_N_in 447 (by decide +kernel) rfl⟩⟩
theorem kb_Ve_37 : mw_KB lw_tbl "WaveLedger$Vertices" 37 y_Wl_bitOf b_Wl_bitOf 1 (some .long) 1 := ⟨wc_Wl_bitOf, wi_Wl, by decide +kernel, Or.inr ⟨"WaveLedger", mw_N_in 448 (by decide +kernel) rfl⟩⟩
theorem kb_Ve_41 : mw_KB lw_tbl "WaveLedger$Vertices" 41 y_In_bitCount b_In_bitCount 1 (some .int) 1 := ⟨wc_In_bitCount, wi_In, by decide +kernel, Or.inl (mw_G_in 449 (by decide +kernel) rfl)⟩
theorem kc_Ve_46 : Cond.constantLong "WaveLedger$Vertices" 46 (-1 : Int64) ∈ mw_G lw_tbl := mw_G_in 450 (by decide +kernel) rfl
theorem f_Vo_9 : mw_F "WaveLedger$Votes" lw_tbl vCl 9 6 0 := ⟨R_Vo, T_Vo, 1, rfl, by decide, wu_Vo, rfl, Or.inl (mw_G_in 165 (by decide +kernel) rfl)⟩
theorem kb_Wl_9 : mw_KB lw_tbl "WaveLedger" 9 y_Wl_isNode b_Wl_isNode 1 (some .boolean) 1 := ⟨wc_Wl_isNode, wi_Wl, by decide +kernel, Or.inl (mw_G_in 62 (by decide +kernel) rfl)⟩
theorem kb_Wl_15 : mw_KB lw_tbl "WaveLedger" 15 y_Ve_init b_Ve_init 1 none 0 := ⟨wc_Ve_init, wi_Ve, by decide +kernel, Or.inr ⟨"WaveLedger", mw_N_in 67 (by decide +kernel) rfl⟩⟩
theorem kb_Wl_18 : mw_KB lw_tbl "WaveLedger" 18 y_Ma_init b_Ma_init 2 none 1 := ⟨wc_Ma_init, wi_Ma, by decide +kernel, Or.inl (mw_G_in 99 (by decide +kernel) rfl)⟩
theorem kb_Wl_23 : mw_KB lw_tbl "WaveLedger" 23 y_No_init b_No_init 5 none 4 := ⟨wc_No_init, wi_No, by decide +kernel, Or.inl (mw_G_in 118 (by decide +kernel) rfl)⟩
theorem f_Wl_26 : mw_F "WaveLedger" lw_tbl vCl 26 7 0 := ⟨R_Wl, T_Wl, 7, rfl, by decide, wu_Wl, rfl, Or.inl (mw_G_in 246 (by decide +kernel) rfl)⟩
theorem f_Wl_30 : mw_F "WaveLedger" lw_tbl vCl 30 7 1 := ⟨R_Wl, T_Wl, 7, rfl, by decide, wu_Wl, rfl, Or.inl (mw_G_in 247 (by decide +kernel) rfl)⟩
theorem f_Wl_34 : mw_F "WaveLedger" lw_tbl vCl 34 7 2 := ⟨R_Wl, T_Wl, 7, rfl, by decide, wu_Wl, rfl, Or.inl (mw_G_in 248 (by decide +kernel) rfl)⟩
theorem f_Wl_38 : mw_F "WaveLedger" lw_tbl vCl 38 7 3 := ⟨R_Wl, T_Wl, 7, rfl, by decide, wu_Wl, rfl, Or.inl (mw_G_in 249 (by decide +kernel) rfl)⟩
theorem f_Wl_42 : mw_F "WaveLedger" lw_tbl vCl 42 7 4 := ⟨R_Wl, T_Wl, 7, rfl, by decide, wu_Wl, rfl, Or.inl (mw_G_in 250 (by decide +kernel) rfl)⟩
theorem kb_Wl_45 : mw_KB lw_tbl "WaveLedger" 45 y_Wl_isActive b_Wl_isActive 2 (some .boolean) 1 := ⟨wc_Wl_isActive, wi_Wl, by decide +kernel, Or.inl (mw_G_in 272 (by decide +kernel) rfl)⟩
theorem kb_Wl_48 : mw_KB lw_tbl "WaveLedger" 48 y_Wl_isAccount b_Wl_isAccount 1 (some .boolean) 1 := ⟨wc_Wl_isAccount, wi_Wl, by decide +kernel, Or.inl (mw_G_in 504 (by decide +kernel) rfl)⟩
theorem f_Wl_60 : mw_F "WaveLedger" lw_tbl vCl 60 3 6 := ⟨R_No, T_No, 15, rfl, by decide, wu_No, rfl, Or.inr ⟨"WaveLedger", mw_N_in 204 (by decide +kernel) rfl⟩⟩
theorem kb_Wl_64 : mw_KB lw_tbl "WaveLedger" 64 y_Tq_isFull b_Tq_isFull 1 (some .boolean) 0 := ⟨wc_Tq_isFull, wi_Tq, by decide +kernel, Or.inl (mw_G_in 575 (by decide +kernel) rfl)⟩
theorem kb_Wl_75 : mw_KB lw_tbl "WaveLedger" 75 y_Tq_append b_Tq_append 2 none 1 := ⟨wc_Tq_append, wi_Tq, by decide +kernel, Or.inl (mw_G_in 595 (by decide +kernel) rfl)⟩
theorem f_Wl_78 : mw_F "WaveLedger" lw_tbl vCl 78 4 1 := ⟨R_Tq, T_Tq, 2, rfl, by decide, wu_Tq, rfl, Or.inr ⟨"WaveLedger", mw_N_in 153 (by decide +kernel) rfl⟩⟩
theorem f_Wl_81 : mw_F "WaveLedger" lw_tbl vCl 81 7 6 := ⟨R_Wl, T_Wl, 7, rfl, by decide, wu_Wl, rfl, Or.inl (mw_G_in 252 (by decide +kernel) rfl)⟩
theorem kb_Wl_85 : mw_KB lw_tbl "WaveLedger" 85 y_No_goOn b_No_goOn 2 none 0 := ⟨wc_No_goOn, wi_No, by decide +kernel, Or.inl (mw_G_in 276 (by decide +kernel) rfl)⟩
theorem f_Wl_90 : mw_F "WaveLedger" lw_tbl vCl 90 2 2 := ⟨R_Ma, T_Ma, 3, rfl, by decide, wu_Ma, rfl, Or.inr ⟨"WaveLedger", mw_N_in 107 (by decide +kernel) rfl⟩⟩
theorem kc_Wl_91 : Cond.constant "WaveLedger" 91 (1103515245 : Int32) ∈ mw_G lw_tbl := mw_G_in 607 (by decide +kernel) rfl
theorem kb_Wl_92 : mw_KB lw_tbl "WaveLedger" 92 y_Wl_arrive b_Wl_arrive 6 none 1 := ⟨wc_Wl_arrive, wi_Wl, by decide +kernel, Or.inl (mw_G_in 387 (by decide +kernel) rfl)⟩
theorem kb_Wl_95 : mw_KB lw_tbl "WaveLedger" 95 y_Ma_has b_Ma_has 2 (some .boolean) 1 := ⟨wc_Ma_has, wi_Ma, by decide +kernel, Or.inl (mw_G_in 383 (by decide +kernel) rfl)⟩
theorem kc_Wl_100 : Cond.constantLong "WaveLedger" 100 (-281474976710656 : Int64) ∈ mw_G lw_tbl := mw_G_in 616 (by decide +kernel) rfl
theorem kb_Wl_102 : mw_KB lw_tbl "WaveLedger" 102 y_Wl_isTransferOrNone b_Wl_isTransferOrNone 2 (some .boolean) 1 := ⟨wc_Wl_isTransferOrNone, wi_Wl, by decide +kernel, Or.inl (mw_G_in 617 (by decide +kernel) rfl)⟩
theorem f_Wl_107 : mw_F "WaveLedger" lw_tbl vCl 107 7 5 := ⟨R_Wl, T_Wl, 7, rfl, by decide, wu_Wl, rfl, Or.inl (mw_G_in 251 (by decide +kernel) rfl)⟩
theorem kb_Wl_112 : mw_KB lw_tbl "WaveLedger" 112 y_Wl_numberOf b_Wl_numberOf 2 (some .int) 2 := ⟨wc_Wl_numberOf, wi_Wl, by decide +kernel, Or.inl (mw_G_in 624 (by decide +kernel) rfl)⟩
theorem kb_Wl_116 : mw_KB lw_tbl "WaveLedger" 116 y_Ve_make b_Ve_make 6 (some .int) 4 := ⟨wc_Ve_make, wi_Ve, by decide +kernel, Or.inl (mw_G_in 625 (by decide +kernel) rfl)⟩
theorem kb_Wl_120 : mw_KB lw_tbl "WaveLedger" 120 y_Ve_has b_Ve_has 2 (some .boolean) 1 := ⟨wc_Ve_has, wi_Ve, by decide +kernel, Or.inl (mw_G_in 464 (by decide +kernel) rfl)⟩
theorem kb_Wl_125 : mw_KB lw_tbl "WaveLedger" 125 y_Ma_send b_Ma_send 5 none 4 := ⟨wc_Ma_send, wi_Ma, by decide +kernel, Or.inl (mw_G_in 635 (by decide +kernel) rfl)⟩
theorem f_Wl_129 : mw_F "WaveLedger" lw_tbl vCl 129 2 1 := ⟨R_Ma, T_Ma, 3, rfl, by decide, wu_Ma, rfl, Or.inr ⟨"WaveLedger", mw_N_in 105 (by decide +kernel) rfl⟩⟩
theorem kb_Wl_133 : mw_KB lw_tbl "WaveLedger" 133 y_Ma_kindOf b_Ma_kindOf 1 (some .int) 1 := ⟨wc_Ma_kindOf, wi_Ma, by decide +kernel, Or.inl (mw_G_in 405 (by decide +kernel) rfl)⟩
theorem kb_Wl_137 : mw_KB lw_tbl "WaveLedger" 137 y_Ma_senderOf b_Ma_senderOf 1 (some .int) 1 := ⟨wc_Ma_senderOf, wi_Ma, by decide +kernel, Or.inl (mw_G_in 396 (by decide +kernel) rfl)⟩
theorem kb_Wl_140 : mw_KB lw_tbl "WaveLedger" 140 y_Ma_receiverOf b_Ma_receiverOf 1 (some .int) 1 := ⟨wc_Ma_receiverOf, wi_Ma, by decide +kernel, Or.inl (mw_G_in 402 (by decide +kernel) rfl)⟩
theorem kb_Wl_143 : mw_KB lw_tbl "WaveLedger" 143 y_Ma_subjectOf b_Ma_subjectOf 1 (some .int) 1 := ⟨wc_Ma_subjectOf, wi_Ma, by decide +kernel, Or.inl (mw_G_in 399 (by decide +kernel) rfl)⟩
theorem f_Wl_146 : mw_F "WaveLedger" lw_tbl vCl 146 5 0 := ⟨R_Ve, T_Ve, 5, rfl, by decide, wu_Ve, rfl, Or.inr ⟨"WaveLedger", mw_N_in 74 (by decide +kernel) rfl⟩⟩
theorem f_Wl_149 : mw_F "WaveLedger" lw_tbl vCl 149 5 1 := ⟨R_Ve, T_Ve, 5, rfl, by decide, wu_Ve, rfl, Or.inr ⟨"WaveLedger", mw_N_in 76 (by decide +kernel) rfl⟩⟩
theorem f_Wl_152 : mw_F "WaveLedger" lw_tbl vCl 152 5 3 := ⟨R_Ve, T_Ve, 5, rfl, by decide, wu_Ve, rfl, Or.inr ⟨"WaveLedger", mw_N_in 81 (by decide +kernel) rfl⟩⟩
theorem f_Wl_155 : mw_F "WaveLedger" lw_tbl vCl 155 5 2 := ⟨R_Ve, T_Ve, 5, rfl, by decide, wu_Ve, rfl, Or.inr ⟨"WaveLedger", mw_N_in 79 (by decide +kernel) rfl⟩⟩
theorem kc_Wl_159 : Cond.constantLong "WaveLedger" 159 (-1 : Int64) ∈ mw_G lw_tbl := mw_G_in 472 (by decide +kernel) rfl
theorem f_Wl_161 : mw_F "WaveLedger" lw_tbl vCl 161 3 12 := ⟨R_No, T_No, 15, rfl, by decide, wu_No, rfl, Or.inr ⟨"WaveLedger", mw_N_in 211 (by decide +kernel) rfl⟩⟩
theorem f_Wl_164 : mw_F "WaveLedger" lw_tbl vCl 164 3 13 := ⟨R_No, T_No, 15, rfl, by decide, wu_No, rfl, Or.inr ⟨"WaveLedger", mw_N_in 213 (by decide +kernel) rfl⟩⟩
theorem f_Wl_167 : mw_F "WaveLedger" lw_tbl vCl 167 3 5 := ⟨R_No, T_No, 15, rfl, by decide, wu_No, rfl, Or.inr ⟨"WaveLedger", mw_N_in 202 (by decide +kernel) rfl⟩⟩
theorem f_Wl_171 : mw_F "WaveLedger" lw_tbl vCl 171 0 3 := ⟨R_Bo, T_Bo, 4, rfl, by decide, wu_Bo, rfl, Or.inr ⟨"WaveLedger", mw_N_in 135 (by decide +kernel) rfl⟩⟩
theorem f_Wl_174 : mw_F "WaveLedger" lw_tbl vCl 174 3 4 := ⟨R_No, T_No, 15, rfl, by decide, wu_No, rfl, Or.inr ⟨"WaveLedger", mw_N_in 200 (by decide +kernel) rfl⟩⟩
theorem f_Wl_178 : mw_F "WaveLedger" lw_tbl vCl 178 1 4 := ⟨R_Gr, T_Gr, 5, rfl, by decide, wu_Gr, rfl, Or.inr ⟨"WaveLedger", mw_N_in 183 (by decide +kernel) rfl⟩⟩
theorem kb_Wl_184 : mw_KB lw_tbl "WaveLedger" 184 y_Lo_bitCount b_Lo_bitCount 2 (some .int) 1 := ⟨wc_Lo_bitCount, wi_Lo, by decide +kernel, Or.inl (mw_G_in 477 (by decide +kernel) rfl)⟩
theorem f_Wl_190 : mw_F "WaveLedger" lw_tbl vCl 190 0 1 := ⟨R_Bo, T_Bo, 4, rfl, by decide, wu_Bo, rfl, Or.inr ⟨"WaveLedger", mw_N_in 131 (by decide +kernel) rfl⟩⟩
theorem kb_Wl_193 : mw_KB lw_tbl "WaveLedger" 193 y_Gr_has b_Gr_has 2 (some .boolean) 1 := ⟨wc_Gr_has, wi_Gr, by decide +kernel, Or.inl (mw_G_in 487 (by decide +kernel) rfl)⟩
theorem f_Wl_194 : mw_F "WaveLedger" lw_tbl vCl 194 1 1 := ⟨R_Gr, T_Gr, 5, rfl, by decide, wu_Gr, rfl, Or.inr ⟨"WaveLedger", mw_N_in 178 (by decide +kernel) rfl⟩⟩
theorem f_Wl_197 : mw_F "WaveLedger" lw_tbl vCl 197 0 0 := ⟨R_Bo, T_Bo, 4, rfl, by decide, wu_Bo, rfl, Or.inr ⟨"WaveLedger", mw_N_in 129 (by decide +kernel) rfl⟩⟩
theorem kb_Wl_198 : mw_KB lw_tbl "WaveLedger" 198 y_Ma_take b_Ma_take 3 (some .int) 1 := ⟨wc_Ma_take, wi_Ma, by decide +kernel, Or.inl (mw_G_in 391 (by decide +kernel) rfl)⟩
theorem kb_Wl_201 : mw_KB lw_tbl "WaveLedger" 201 y_No_receiveSend b_No_receiveSend 4 none 2 := ⟨wc_No_receiveSend, wi_No, by decide +kernel, Or.inl (mw_G_in 408 (by decide +kernel) rfl)⟩
theorem kb_Wl_205 : mw_KB lw_tbl "WaveLedger" 205 y_No_receiveEcho b_No_receiveEcho 4 none 2 := ⟨wc_No_receiveEcho, wi_No, by decide +kernel, Or.inl (mw_G_in 416 (by decide +kernel) rfl)⟩
theorem kb_Wl_208 : mw_KB lw_tbl "WaveLedger" 208 y_No_receiveReady b_No_receiveReady 5 none 2 := ⟨wc_No_receiveReady, wi_No, by decide +kernel, Or.inl (mw_G_in 428 (by decide +kernel) rfl)⟩
theorem kb_Wl_211 : mw_KB lw_tbl "WaveLedger" 211 y_Wl_payerOf b_Wl_payerOf 1 (some .int) 1 := ⟨wc_Wl_payerOf, wi_Wl, by decide +kernel, Or.inl (mw_G_in 620 (by decide +kernel) rfl)⟩
theorem kb_Wl_214 : mw_KB lw_tbl "WaveLedger" 214 y_Wl_payeeOf b_Wl_payeeOf 1 (some .int) 1 := ⟨wc_Wl_payeeOf, wi_Wl, by decide +kernel, Or.inl (mw_G_in 621 (by decide +kernel) rfl)⟩
theorem f_Mo_7 : mw_F "WaveLedgerModel" lw_tbl vCl 7 8 6 := ⟨R_Mo, T_Mo, 29, rfl, by decide, wu_Mo, rfl, Or.inl (mw_G_in 648 (by decide +kernel) rfl)⟩
theorem f_Mo_13 : mw_F "WaveLedgerModel" lw_tbl vCl 13 8 7 := ⟨R_Mo, T_Mo, 29, rfl, by decide, wu_Mo, rfl, Or.inl (mw_G_in 649 (by decide +kernel) rfl)⟩
theorem f_Mo_16 : mw_F "WaveLedgerModel" lw_tbl vCl 16 8 8 := ⟨R_Mo, T_Mo, 29, rfl, by decide, wu_Mo, rfl, Or.inl (mw_G_in 650 (by decide +kernel) rfl)⟩
theorem f_Mo_20 : mw_F "WaveLedgerModel" lw_tbl vCl 20 8 9 := ⟨R_Mo, T_Mo, 29, rfl, by decide, wu_Mo, rfl, Or.inl (mw_G_in 651 (by decide +kernel) rfl)⟩
theorem f_Mo_23 : mw_F "WaveLedgerModel" lw_tbl vCl 23 8 11 := ⟨R_Mo, T_Mo, 29, rfl, by decide, wu_Mo, rfl, Or.inl (mw_G_in 653 (by decide +kernel) rfl)⟩
theorem f_Mo_26 : mw_F "WaveLedgerModel" lw_tbl vCl 26 8 13 := ⟨R_Mo, T_Mo, 29, rfl, by decide, wu_Mo, rfl, Or.inl (mw_G_in 655 (by decide +kernel) rfl)⟩
theorem f_Mo_30 : mw_F "WaveLedgerModel" lw_tbl vCl 30 8 14 := ⟨R_Mo, T_Mo, 29, rfl, by decide, wu_Mo, rfl, Or.inl (mw_G_in 656 (by decide +kernel) rfl)⟩
theorem f_Mo_33 : mw_F "WaveLedgerModel" lw_tbl vCl 33 8 15 := ⟨R_Mo, T_Mo, 29, rfl, by decide, wu_Mo, rfl, Or.inl (mw_G_in 657 (by decide +kernel) rfl)⟩
theorem f_Mo_36 : mw_F "WaveLedgerModel" lw_tbl vCl 36 8 16 := ⟨R_Mo, T_Mo, 29, rfl, by decide, wu_Mo, rfl, Or.inl (mw_G_in 658 (by decide +kernel) rfl)⟩
theorem f_Mo_39 : mw_F "WaveLedgerModel" lw_tbl vCl 39 8 17 := ⟨R_Mo, T_Mo, 29, rfl, by decide, wu_Mo, rfl, Or.inl (mw_G_in 659 (by decide +kernel) rfl)⟩
theorem f_Mo_42 : mw_F "WaveLedgerModel" lw_tbl vCl 42 8 18 := ⟨R_Mo, T_Mo, 29, rfl, by decide, wu_Mo, rfl, Or.inl (mw_G_in 660 (by decide +kernel) rfl)⟩
theorem f_Mo_45 : mw_F "WaveLedgerModel" lw_tbl vCl 45 8 19 := ⟨R_Mo, T_Mo, 29, rfl, by decide, wu_Mo, rfl, Or.inl (mw_G_in 661 (by decide +kernel) rfl)⟩
theorem f_Mo_48 : mw_F "WaveLedgerModel" lw_tbl vCl 48 8 20 := ⟨R_Mo, T_Mo, 29, rfl, by decide, wu_Mo, rfl, Or.inl (mw_G_in 662 (by decide +kernel) rfl)⟩
theorem f_Mo_51 : mw_F "WaveLedgerModel" lw_tbl vCl 51 8 21 := ⟨R_Mo, T_Mo, 29, rfl, by decide, wu_Mo, rfl, Or.inl (mw_G_in 663 (by decide +kernel) rfl)⟩
theorem f_Mo_54 : mw_F "WaveLedgerModel" lw_tbl vCl 54 8 22 := ⟨R_Mo, T_Mo, 29, rfl, by decide, wu_Mo, rfl, Or.inl (mw_G_in 664 (by decide +kernel) rfl)⟩
theorem f_Mo_57 : mw_F "WaveLedgerModel" lw_tbl vCl 57 8 23 := ⟨R_Mo, T_Mo, 29, rfl, by decide, wu_Mo, rfl, Or.inl (mw_G_in 665 (by decide +kernel) rfl)⟩
theorem f_Mo_60 : mw_F "WaveLedgerModel" lw_tbl vCl 60 8 24 := ⟨R_Mo, T_Mo, 29, rfl, by decide, wu_Mo, rfl, Or.inl (mw_G_in 666 (by decide +kernel) rfl)⟩
theorem f_Mo_63 : mw_F "WaveLedgerModel" lw_tbl vCl 63 8 25 := ⟨R_Mo, T_Mo, 29, rfl, by decide, wu_Mo, rfl, Or.inl (mw_G_in 667 (by decide +kernel) rfl)⟩
theorem f_Mo_66 : mw_F "WaveLedgerModel" lw_tbl vCl 66 8 26 := ⟨R_Mo, T_Mo, 29, rfl, by decide, wu_Mo, rfl, Or.inl (mw_G_in 668 (by decide +kernel) rfl)⟩
theorem f_Mo_69 : mw_F "WaveLedgerModel" lw_tbl vCl 69 8 27 := ⟨R_Mo, T_Mo, 29, rfl, by decide, wu_Mo, rfl, Or.inl (mw_G_in 669 (by decide +kernel) rfl)⟩
theorem f_Mo_72 : mw_F "WaveLedgerModel" lw_tbl vCl 72 8 28 := ⟨R_Mo, T_Mo, 29, rfl, by decide, wu_Mo, rfl, Or.inl (mw_G_in 670 (by decide +kernel) rfl)⟩
theorem f_Mo_75 : mw_F "WaveLedgerModel" lw_tbl vCl 75 8 1 := ⟨R_Mo, T_Mo, 29, rfl, by decide, wu_Mo, rfl, Or.inl (mw_G_in 643 (by decide +kernel) rfl)⟩
theorem f_Mo_79 : mw_F "WaveLedgerModel" lw_tbl vCl 79 8 2 := ⟨R_Mo, T_Mo, 29, rfl, by decide, wu_Mo, rfl, Or.inl (mw_G_in 644 (by decide +kernel) rfl)⟩
theorem f_Mo_82 : mw_F "WaveLedgerModel" lw_tbl vCl 82 8 3 := ⟨R_Mo, T_Mo, 29, rfl, by decide, wu_Mo, rfl, Or.inl (mw_G_in 645 (by decide +kernel) rfl)⟩
theorem f_Mo_85 : mw_F "WaveLedgerModel" lw_tbl vCl 85 8 0 := ⟨R_Mo, T_Mo, 29, rfl, by decide, wu_Mo, rfl, Or.inl (mw_G_in 642 (by decide +kernel) rfl)⟩
theorem kb_Mo_88 : mw_KB lw_tbl "WaveLedgerModel" 88 y_Mo_isNode b_Mo_isNode 1 (some .boolean) 1 := ⟨wc_Mo_isNode, wi_Mo, by decide +kernel, Or.inl (mw_G_in 739 (by decide +kernel) rfl)⟩
theorem kc_Mo_92 : Cond.constant "WaveLedgerModel" 92 (1103515245 : Int32) ∈ mw_G lw_tbl := mw_G_in 824 (by decide +kernel) rfl
theorem kb_Mo_93 : mw_KB lw_tbl "WaveLedgerModel" 93 y_Mo_isFaulty b_Mo_isFaulty 2 (some .boolean) 1 := ⟨wc_Mo_isFaulty, wi_Mo, by decide +kernel, Or.inl (mw_G_in 742 (by decide +kernel) rfl)⟩
theorem f_Mo_96 : mw_F "WaveLedgerModel" lw_tbl vCl 96 8 12 := ⟨R_Mo, T_Mo, 29, rfl, by decide, wu_Mo, rfl, Or.inl (mw_G_in 654 (by decide +kernel) rfl)⟩
theorem kb_Mo_99 : mw_KB lw_tbl "WaveLedgerModel" 99 y_Mo_sendOne b_Mo_sendOne 5 none 4 := ⟨wc_Mo_sendOne, wi_Mo, by decide +kernel, Or.inl (mw_G_in 812 (by decide +kernel) rfl)⟩
theorem kb_Mo_103 : mw_KB lw_tbl "WaveLedgerModel" 103 y_Mo_sendComes b_Mo_sendComes 5 none 4 := ⟨wc_Mo_sendComes, wi_Mo, by decide +kernel, Or.inl (mw_G_in 829 (by decide +kernel) rfl)⟩
theorem kb_Mo_106 : mw_KB lw_tbl "WaveLedgerModel" 106 y_Mo_echoComes b_Mo_echoComes 5 none 4 := ⟨wc_Mo_echoComes, wi_Mo, by decide +kernel, Or.inl (mw_G_in 833 (by decide +kernel) rfl)⟩
theorem kb_Mo_109 : mw_KB lw_tbl "WaveLedgerModel" 109 y_Mo_readyComes b_Mo_readyComes 6 none 4 := ⟨wc_Mo_readyComes, wi_Mo, by decide +kernel, Or.inl (mw_G_in 844 (by decide +kernel) rfl)⟩
theorem f_Mo_112 : mw_F "WaveLedgerModel" lw_tbl vCl 112 8 4 := ⟨R_Mo, T_Mo, 29, rfl, by decide, wu_Mo, rfl, Or.inl (mw_G_in 646 (by decide +kernel) rfl)⟩
theorem kb_Mo_116 : mw_KB lw_tbl "WaveLedgerModel" 116 y_Mo_goesOn b_Mo_goesOn 3 none 1 := ⟨wc_Mo_goesOn, wi_Mo, by decide +kernel, Or.inl (mw_G_in 757 (by decide +kernel) rfl)⟩
theorem kb_Mo_120 : mw_KB lw_tbl "WaveLedgerModel" 120 y_Mo_broadcast b_Mo_broadcast 5 none 3 := ⟨wc_Mo_broadcast, wi_Mo, by decide +kernel, Or.inl (mw_G_in 808 (by decide +kernel) rfl)⟩
theorem kb_Mo_124 : mw_KB lw_tbl "WaveLedgerModel" 124 y_Mo_noted b_Mo_noted 5 (some .int) 3 := ⟨wc_Mo_noted, wi_Mo, by decide +kernel, Or.inl (mw_G_in 837 (by decide +kernel) rfl)⟩
theorem kb_Mo_128 : mw_KB lw_tbl "WaveLedgerModel" 128 y_Mo_ready b_Mo_ready 4 none 3 := ⟨wc_Mo_ready, wi_Mo, by decide +kernel, Or.inl (mw_G_in 840 (by decide +kernel) rfl)⟩
theorem kb_Mo_131 : mw_KB lw_tbl "WaveLedgerModel" 131 y_Mo_addAll b_Mo_addAll 7 none 1 := ⟨wc_Mo_addAll, wi_Mo, by decide +kernel, Or.inl (mw_G_in 848 (by decide +kernel) rfl)⟩
theorem kb_Mo_134 : mw_KB lw_tbl "WaveLedgerModel" 134 y_Mo_bits b_Mo_bits 1 (some .int) 1 := ⟨wc_Mo_bits, wi_Mo, by decide +kernel, Or.inl (mw_G_in 769 (by decide +kernel) rfl)⟩
theorem kc_Mo_138 : Cond.constantLong "WaveLedgerModel" 138 (-1 : Int64) ∈ mw_G lw_tbl := mw_G_in 860 (by decide +kernel) rfl
theorem kb_Mo_140 : mw_KB lw_tbl "WaveLedgerModel" 140 y_Mo_graphOf b_Mo_graphOf 5 (some .long) 1 := ⟨wc_Mo_graphOf, wi_Mo, by decide +kernel, Or.inl (mw_G_in 852 (by decide +kernel) rfl)⟩
theorem kb_Mo_144 : mw_KB lw_tbl "WaveLedgerModel" 144 y_Mo_isRight b_Mo_isRight 5 (some .boolean) 1 := ⟨wc_Mo_isRight, wi_Mo, by decide +kernel, Or.inl (mw_G_in 856 (by decide +kernel) rfl)⟩
theorem kb_Mo_147 : mw_KB lw_tbl "WaveLedgerModel" 147 y_Mo_points b_Mo_points 6 (some .long) 2 := ⟨wc_Mo_points, wi_Mo, by decide +kernel, Or.inl (mw_G_in 784 (by decide +kernel) rfl)⟩
theorem kb_Mo_151 : mw_KB lw_tbl "WaveLedgerModel" 151 y_Mo_leader b_Mo_leader 2 (some .int) 1 := ⟨wc_Mo_leader, wi_Mo, by decide +kernel, Or.inl (mw_G_in 776 (by decide +kernel) rfl)⟩
theorem kb_Mo_154 : mw_KB lw_tbl "WaveLedgerModel" 154 y_Mo_below b_Mo_below 9 (some .long) 3 := ⟨wc_Mo_below, wi_Mo, by decide +kernel, Or.inl (mw_G_in 780 (by decide +kernel) rfl)⟩
theorem kb_Mo_158 : mw_KB lw_tbl "WaveLedgerModel" 158 y_Mo_orderBelow b_Mo_orderBelow 7 none 2 := ⟨wc_Mo_orderBelow, wi_Mo, by decide +kernel, Or.inl (mw_G_in 788 (by decide +kernel) rfl)⟩
theorem kb_Mo_162 : mw_KB lw_tbl "WaveLedgerModel" 162 y_Mo_make b_Mo_make 6 none 2 := ⟨wc_Mo_make, wi_Mo, by decide +kernel, Or.inl (mw_G_in 792 (by decide +kernel) rfl)⟩
theorem f_Mo_165 : mw_F "WaveLedgerModel" lw_tbl vCl 165 8 5 := ⟨R_Mo, T_Mo, 29, rfl, by decide, wu_Mo, rfl, Or.inl (mw_G_in 647 (by decide +kernel) rfl)⟩
theorem kb_Mo_168 : mw_KB lw_tbl "WaveLedgerModel" 168 y_Mo_inRound b_Mo_inRound 5 (some .int) 2 := ⟨wc_Mo_inRound, wi_Mo, by decide +kernel, Or.inl (mw_G_in 765 (by decide +kernel) rfl)⟩
theorem kb_Mo_172 : mw_KB lw_tbl "WaveLedgerModel" 172 y_Mo_firstTransfer b_Mo_firstTransfer 4 (some .int) 1 := ⟨wc_Mo_firstTransfer, wi_Mo, by decide +kernel, Or.inl (mw_G_in 800 (by decide +kernel) rfl)⟩
theorem kb_Mo_175 : mw_KB lw_tbl "WaveLedgerModel" 175 y_Mo_newVertex b_Mo_newVertex 6 (some .int) 4 := ⟨wc_Mo_newVertex, wi_Mo, by decide +kernel, Or.inl (mw_G_in 804 (by decide +kernel) rfl)⟩
theorem kb_Mo_179 : mw_KB lw_tbl "WaveLedgerModel" 179 y_Mo_isFull b_Mo_isFull 2 (some .boolean) 1 := ⟨wc_Mo_isFull, wi_Mo, by decide +kernel, Or.inl (mw_G_in 761 (by decide +kernel) rfl)⟩
theorem kb_Mo_182 : mw_KB lw_tbl "WaveLedgerModel" 182 y_Mo_done b_Mo_done 9 none 2 := ⟨wc_Mo_done, wi_Mo, by decide +kernel, Or.inl (mw_G_in 772 (by decide +kernel) rfl)⟩
theorem kb_Mo_185 : mw_KB lw_tbl "WaveLedgerModel" 185 y_Mo_makeVertex b_Mo_makeVertex 11 none 2 := ⟨wc_Mo_makeVertex, wi_Mo, by decide +kernel, Or.inl (mw_G_in 796 (by decide +kernel) rfl)⟩
theorem kb_Mo_188 : mw_KB lw_tbl "WaveLedgerModel" 188 y_Mo_isTransfer b_Mo_isTransfer 3 (some .boolean) 3 := ⟨wc_Mo_isTransfer, wi_Mo, by decide +kernel, Or.inl (mw_G_in 746 (by decide +kernel) rfl)⟩
theorem kb_Mo_192 : mw_KB lw_tbl "WaveLedgerModel" 192 y_Mo_refuse b_Mo_refuse 2 (some .int) 1 := ⟨wc_Mo_refuse, wi_Mo, by decide +kernel, Or.inl (mw_G_in 749 (by decide +kernel) rfl)⟩
theorem kb_Mo_195 : mw_KB lw_tbl "WaveLedgerModel" 195 y_Mo_draw b_Mo_draw 2 (some .int) 1 := ⟨wc_Mo_draw, wi_Mo, by decide +kernel, Or.inl (mw_G_in 820 (by decide +kernel) rfl)⟩
theorem kb_Mo_198 : mw_KB lw_tbl "WaveLedgerModel" 198 y_Mo_comes b_Mo_comes 8 none 1 := ⟨wc_Mo_comes, wi_Mo, by decide +kernel, Or.inl (mw_G_in 825 (by decide +kernel) rfl)⟩
theorem f_Mo_201 : mw_F "WaveLedgerModel" lw_tbl vCl 201 8 10 := ⟨R_Mo, T_Mo, 29, rfl, by decide, wu_Mo, rfl, Or.inl (mw_G_in 652 (by decide +kernel) rfl)⟩
theorem kb_Mo_204 : mw_KB lw_tbl "WaveLedgerModel" 204 y_Mo_graphSize b_Mo_graphSize 4 (some .int) 1 := ⟨wc_Mo_graphSize, wi_Mo, by decide +kernel, Or.inl (mw_G_in 889 (by decide +kernel) rfl)⟩
theorem kb_La_7 : mw_KB lw_tbl "WaveLedgerLaw" 7 y_Wl_transfer b_Wl_transfer 6 (some .int) 4 := ⟨wc_Wl_transfer, wi_Wl, by decide +kernel, Or.inl (mw_G_in 500 (by decide +kernel) rfl)⟩
theorem kb_La_17 : mw_KB lw_tbl "WaveLedgerLaw" 17 y_Wl_run b_Wl_run 3 (some .int) 1 := ⟨wc_Wl_run, wi_Wl, by decide +kernel, Or.inl (mw_G_in 602 (by decide +kernel) rfl)⟩
theorem kb_La_21 : mw_KB lw_tbl "WaveLedgerLaw" 21 y_Wl_forge b_Wl_forge 6 (some .int) 4 := ⟨wc_Wl_forge, wi_Wl, by decide +kernel, Or.inl (mw_G_in 611 (by decide +kernel) rfl)⟩
theorem kb_La_25 : mw_KB lw_tbl "WaveLedgerLaw" 25 y_Wl_whisper b_Wl_whisper 4 (some .int) 3 := ⟨wc_Wl_whisper, wi_Wl, by decide +kernel, Or.inl (mw_G_in 629 (by decide +kernel) rfl)⟩
theorem kb_La_29 : mw_KB lw_tbl "WaveLedgerLaw" 29 y_La_cell b_La_cell 2 (some .int) 2 := ⟨wc_La_cell, wi_La, by decide +kernel, Or.inl (mw_G_in 492 (by decide +kernel) rfl)⟩
theorem kb_La_35 : mw_KB lw_tbl "WaveLedgerLaw" 35 y_Wl_init b_Wl_init 9 none 3 := ⟨wc_Wl_init, wi_Wl, by decide +kernel, Or.inl (mw_G_in 56 (by decide +kernel) rfl)⟩
theorem kb_La_40 : mw_KB lw_tbl "WaveLedgerLaw" 40 y_Mo_init b_Mo_init 5 none 3 := ⟨wc_Mo_init, wi_Mo, by decide +kernel, Or.inl (mw_G_in 638 (by decide +kernel) rfl)⟩
theorem kb_La_44 : mw_KB lw_tbl "WaveLedgerLaw" 44 y_Mo_transfer b_Mo_transfer 5 (some .int) 4 := ⟨wc_Mo_transfer, wi_Mo, by decide +kernel, Or.inl (mw_G_in 735 (by decide +kernel) rfl)⟩
theorem kb_La_45 : mw_KB lw_tbl "WaveLedgerLaw" 45 y_Mo_thrown b_Mo_thrown 1 (some .int) 0 := ⟨wc_Mo_thrown, wi_Mo, by decide +kernel, Or.inl (mw_G_in 731 (by decide +kernel) rfl)⟩
theorem kb_La_49 : mw_KB lw_tbl "WaveLedgerLaw" 49 y_Wl_begin b_Wl_begin 2 (some .boolean) 0 := ⟨wc_Wl_begin, wi_Wl, by decide +kernel, Or.inl (mw_G_in 268 (by decide +kernel) rfl)⟩
theorem kb_La_53 : mw_KB lw_tbl "WaveLedgerLaw" 53 y_Mo_begin b_Mo_begin 2 (some .boolean) 0 := ⟨wc_Mo_begin, wi_Mo, by decide +kernel, Or.inl (mw_G_in 753 (by decide +kernel) rfl)⟩
theorem kb_La_57 : mw_KB lw_tbl "WaveLedgerLaw" 57 y_Mo_run b_Mo_run 4 (some .int) 1 := ⟨wc_Mo_run, wi_Mo, by decide +kernel, Or.inl (mw_G_in 816 (by decide +kernel) rfl)⟩
theorem kb_La_58 : mw_KB lw_tbl "WaveLedgerLaw" 58 y_Wl_deliver b_Wl_deliver 2 (some .boolean) 1 := ⟨wc_Wl_deliver, wi_Wl, by decide +kernel, Or.inl (mw_G_in 379 (by decide +kernel) rfl)⟩
theorem kb_La_62 : mw_KB lw_tbl "WaveLedgerLaw" 62 y_Mo_deliver b_Mo_deliver 2 (some .boolean) 1 := ⟨wc_Mo_deliver, wi_Mo, by decide +kernel, Or.inl (mw_G_in 861 (by decide +kernel) rfl)⟩
theorem kc_La_63 : Cond.constantLong "WaveLedgerLaw" 63 (4294967295 : Int64) ∈ mw_G lw_tbl := mw_G_in 901 (by decide +kernel) rfl
theorem kb_La_68 : mw_KB lw_tbl "WaveLedgerLaw" 68 y_Mo_forge b_Mo_forge 7 (some .int) 4 := ⟨wc_Mo_forge, wi_Mo, by decide +kernel, Or.inl (mw_G_in 865 (by decide +kernel) rfl)⟩
theorem kb_La_72 : mw_KB lw_tbl "WaveLedgerLaw" 72 y_Mo_whisper b_Mo_whisper 4 (some .int) 3 := ⟨wc_Mo_whisper, wi_Mo, by decide +kernel, Or.inl (mw_G_in 869 (by decide +kernel) rfl)⟩
theorem kb_La_73 : mw_KB lw_tbl "WaveLedgerLaw" 73 y_Wl_message b_Wl_message 4 (some .int) 2 := ⟨wc_Wl_message, wi_Wl, by decide +kernel, Or.inl (mw_G_in 456 (by decide +kernel) rfl)⟩
theorem kb_La_77 : mw_KB lw_tbl "WaveLedgerLaw" 77 y_Mo_message b_Mo_message 4 (some .int) 2 := ⟨wc_Mo_message, wi_Mo, by decide +kernel, Or.inl (mw_G_in 873 (by decide +kernel) rfl)⟩
theorem kb_La_78 : mw_KB lw_tbl "WaveLedgerLaw" 78 y_Wl_vertex b_Wl_vertex 3 (some .int) 2 := ⟨wc_Wl_vertex, wi_Wl, by decide +kernel, Or.inl (mw_G_in 460 (by decide +kernel) rfl)⟩
theorem kb_La_81 : mw_KB lw_tbl "WaveLedgerLaw" 81 y_Mo_vertex b_Mo_vertex 3 (some .int) 2 := ⟨wc_Mo_vertex, wi_Mo, by decide +kernel, Or.inl (mw_G_in 877 (by decide +kernel) rfl)⟩
theorem kb_La_82 : mw_KB lw_tbl "WaveLedgerLaw" 82 y_Wl_weak b_Wl_weak 2 (some .long) 1 := ⟨wc_Wl_weak, wi_Wl, by decide +kernel, Or.inl (mw_G_in 468 (by decide +kernel) rfl)⟩
theorem kb_La_86 : mw_KB lw_tbl "WaveLedgerLaw" 86 y_Mo_weak b_Mo_weak 2 (some .long) 1 := ⟨wc_Mo_weak, wi_Mo, by decide +kernel, Or.inl (mw_G_in 881 (by decide +kernel) rfl)⟩
theorem kb_La_87 : mw_KB lw_tbl "WaveLedgerLaw" 87 y_Wl_node b_Wl_node 4 (some .int) 2 := ⟨wc_Wl_node, wi_Wl, by decide +kernel, Or.inl (mw_G_in 473 (by decide +kernel) rfl)⟩
theorem kb_La_90 : mw_KB lw_tbl "WaveLedgerLaw" 90 y_Mo_node b_Mo_node 3 (some .int) 2 := ⟨wc_Mo_node, wi_Mo, by decide +kernel, Or.inl (mw_G_in 885 (by decide +kernel) rfl)⟩
theorem kb_La_91 : mw_KB lw_tbl "WaveLedgerLaw" 91 y_Wl_graph b_Wl_graph 4 (some .int) 2 := ⟨wc_Wl_graph, wi_Wl, by decide +kernel, Or.inl (mw_G_in 483 (by decide +kernel) rfl)⟩
theorem kb_La_94 : mw_KB lw_tbl "WaveLedgerLaw" 94 y_Mo_graph b_Mo_graph 4 (some .int) 2 := ⟨wc_Mo_graph, wi_Mo, by decide +kernel, Or.inl (mw_G_in 893 (by decide +kernel) rfl)⟩
theorem kb_La_95 : mw_KB lw_tbl "WaveLedgerLaw" 95 y_Wl_ordered b_Wl_ordered 3 (some .int) 2 := ⟨wc_Wl_ordered, wi_Wl, by decide +kernel, Or.inl (mw_G_in 488 (by decide +kernel) rfl)⟩
theorem kb_La_98 : mw_KB lw_tbl "WaveLedgerLaw" 98 y_Mo_ordered b_Mo_ordered 3 (some .int) 2 := ⟨wc_Mo_ordered, wi_Mo, by decide +kernel, Or.inl (mw_G_in 897 (by decide +kernel) rfl)⟩
theorem kc_In_265 : Cond.constant "java/lang/Integer" 265 (1431655765 : Int32) ∈ mw_G lw_tbl := mw_G_in 294 (by decide +kernel) rfl
theorem kc_In_266 : Cond.constant "java/lang/Integer" 266 (858993459 : Int32) ∈ mw_G lw_tbl := mw_G_in 295 (by decide +kernel) rfl
theorem kc_In_267 : Cond.constant "java/lang/Integer" 267 (252645135 : Int32) ∈ mw_G lw_tbl := mw_G_in 296 (by decide +kernel) rfl
theorem kc_Lo_314 : Cond.constantLong "java/lang/Long" 314 (6148914691236517205 : Int64) ∈ mw_G lw_tbl := mw_G_in 480 (by decide +kernel) rfl
theorem kc_Lo_316 : Cond.constantLong "java/lang/Long" 316 (3689348814741910323 : Int64) ∈ mw_G lw_tbl := mw_G_in 481 (by decide +kernel) rfl
theorem kc_Lo_318 : Cond.constantLong "java/lang/Long" 318 (1085102592571150095 : Int64) ∈ mw_G lw_tbl := mw_G_in 482 (by decide +kernel) rfl
theorem ka_native : Cond.native arraycopyName ∈ mw_G lw_tbl := mw_G_in 366 (by decide +kernel) rfl
theorem ka_static : Cond.static arraycopyName ∈ mw_G lw_tbl := mw_G_in 365 (by decide +kernel) rfl
theorem ka_init : Cond.initialized "java/lang/System" ∈ mw_G lw_tbl := mw_G_in 52 (by decide +kernel) rfl
theorem p_Bo_2 : mw_P vCl 0 2 .long := ⟨R_Bo, T_Bo, 4, t_Bo, rfl, t_Bo_ok, n_Bo, rfl, by decide +kernel⟩
theorem p_Bo_3 : mw_P vCl 0 3 .int := ⟨R_Bo, T_Bo, 4, t_Bo, rfl, t_Bo_ok, n_Bo, rfl, by decide +kernel⟩
theorem p_Gr_4 : mw_P vCl 1 4 .long := ⟨R_Gr, T_Gr, 5, t_Gr, rfl, t_Gr_ok, n_Gr, rfl, by decide +kernel⟩
theorem p_Ma_2 : mw_P vCl 2 2 .int := ⟨R_Ma, T_Ma, 3, t_Ma, rfl, t_Ma_ok, n_Ma, rfl, by decide +kernel⟩
theorem p_No_10 : mw_P vCl 3 10 .long := ⟨R_No, T_No, 15, t_No, rfl, t_No_ok, n_No, rfl, by decide +kernel⟩
theorem p_No_11 : mw_P vCl 3 11 .long := ⟨R_No, T_No, 15, t_No, rfl, t_No_ok, n_No, rfl, by decide +kernel⟩
theorem p_No_12 : mw_P vCl 3 12 .int := ⟨R_No, T_No, 15, t_No, rfl, t_No_ok, n_No, rfl, by decide +kernel⟩
theorem p_No_13 : mw_P vCl 3 13 .int := ⟨R_No, T_No, 15, t_No, rfl, t_No_ok, n_No, rfl, by decide +kernel⟩
theorem p_No_14 : mw_P vCl 3 14 .boolean := ⟨R_No, T_No, 15, t_No, rfl, t_No_ok, n_No, rfl, by decide +kernel⟩
theorem p_Tq_1 : mw_P vCl 4 1 .int := ⟨R_Tq, T_Tq, 2, t_Tq, rfl, t_Tq_ok, n_Tq, rfl, by decide +kernel⟩
theorem p_Ve_4 : mw_P vCl 5 4 .int := ⟨R_Ve, T_Ve, 5, t_Ve, rfl, t_Ve_ok, n_Ve, rfl, by decide +kernel⟩
theorem p_Wl_4 : mw_P vCl 7 4 .int := ⟨R_Wl, T_Wl, 7, t_Wl, rfl, t_Wl_ok, n_Wl, rfl, by decide +kernel⟩
theorem p_Wl_5 : mw_P vCl 7 5 .int := ⟨R_Wl, T_Wl, 7, t_Wl, rfl, t_Wl_ok, n_Wl, rfl, by decide +kernel⟩
theorem p_Wl_6 : mw_P vCl 7 6 .boolean := ⟨R_Wl, T_Wl, 7, t_Wl, rfl, t_Wl_ok, n_Wl, rfl, by decide +kernel⟩
theorem p_Mo_0 : mw_P vCl 8 0 .int := ⟨R_Mo, T_Mo, 29, t_Mo, rfl, t_Mo_ok, n_Mo, rfl, by decide +kernel⟩
theorem p_Mo_1 : mw_P vCl 8 1 .int := ⟨R_Mo, T_Mo, 29, t_Mo, rfl, t_Mo_ok, n_Mo, rfl, by decide +kernel⟩
theorem p_Mo_4 : mw_P vCl 8 4 .boolean := ⟨R_Mo, T_Mo, 29, t_Mo, rfl, t_Mo_ok, n_Mo, rfl, by decide +kernel⟩
theorem p_Mo_5 : mw_P vCl 8 5 .int := ⟨R_Mo, T_Mo, 29, t_Mo, rfl, t_Mo_ok, n_Mo, rfl, by decide +kernel⟩
theorem p_Mo_10 : mw_P vCl 8 10 .int := ⟨R_Mo, T_Mo, 29, t_Mo, rfl, t_Mo_ok, n_Mo, rfl, by decide +kernel⟩
theorem p_Mo_12 : mw_P vCl 8 12 .int := ⟨R_Mo, T_Mo, 29, t_Mo, rfl, t_Mo_ok, n_Mo, rfl, by decide +kernel⟩
