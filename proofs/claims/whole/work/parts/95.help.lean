/-! the law's helpers, where the call returns -/
theorem cR_he {cn : Int32} {fy : Nat} {σ : aS} {S : mw_S} (h : cR cn fy σ S) (x : Int64) : cR cn fy σ (mw_uL S 69 0 x) := cR_cells h (fun k hk => ⟨rfl, by rw [mw_uL_2, if_neg (by omega)]⟩)
theorem MQ_up {below : List Frame} {Qc : Array Value → State → Outcome → State → Prop} {a : Array Value} {s t : State} {free : Addr → Prop} (h : MQ below Qc a s 0 0 free t) : MQ below Qc a s 1 6 free t := by
  obtain ⟨o, h1, h2, h3, LL, h4, h5⟩ := h
  exact ⟨o, h1, h2, h3, LL, ⟨h4.1, h4.2.1, ⟨h4.2.2.1, h4.2.2.2.1, Nat.le_trans h4.2.2.2.2.1 (Nat.add_le_add_left (Nat.zero_le _) _), h4.2.2.2.2.2.1, Nat.le_trans h4.2.2.2.2.2.2.1 (Nat.zero_le _), h4.2.2.2.2.2.2.2⟩⟩, h5⟩
section MHR
variable {p : Program} {l : Launch} {e : Env} {R : Room} {s : State} {m : MethodId} {args : Array Value} {below : List Frame} {meth : Method} {c : Code}
variable {cc : ByteArray} {nL : Nat} {own : String} {b0 : Cond} {tb : List Cond} {D : va_G} {cl : List vw_C} {cA : Nat → ClassId} {A : Nat → Prop} {ad : Nat → Nat} {sh : Nat → mw_H} {n : Nat} {w : Bool}
variable {pc : Nat} {lv : List (Nat × mw_V)} {S S0 : mw_S}
theorem mh_iret (C : mw_C p m c s args cc nL own b0 tb D cl cA A ad n w) {post : Int32 → mw_S → Prop} {v : Int32} (hR : meth.sig.returnType = some .int ∧ meth.locks = false ∧ A = mw_fr w (mw_W cA ad sh n S0) s.heap.size) (hd : decode cc pc = .ok (.ireturn, 1)) (hq : post v S) : mw p l e R s m args below meth c (MQ below (mw_Qc w D cl cA ad sh n s.heap.size S0 (mw_Pi post)) args s 1 6 A) 0 0 D cl cA A ad sh n nL (pc) (lv) ([.inl v]) (S) := fun H locs ls hP hS hl T hT X => by
  obtain ⟨t, hs, q⟩ := mw_iret (post := post) C hR hd hq H locs ls hP hS hl T hT X
  exact ⟨t, hs, MQ_up q⟩
end MHR
set_option maxHeartbeats 4000000 in
set_option maxRecDepth 100000 in
theorem mh_La_run_0 (l : Launch) (htr : l.stackTraces = false) (D : va_G) (cA : Nat → ClassId) (bd : Nat) (cn : Int32) (σ : aS) (fy B n : Nat) (S : mw_S) (h : cR cn fy σ S) (hJ : aJ fy B σ) (hB : B ≤ 2240) (hn : n ≤ 100) : mh_M l lw_tbl y_La_run b_La_run 4 (some .int) [(0, 9, 12, 13)] { frames := 7, cells := 1, slots := 6, locals := 170 } D vCl cA sh_He 70 [.inr (.inr 0), .inl (nI n), .inr (.inr 69)] (S) bd (mw_Pi (fun r S' => r = nI 0 ∧ S'.2 69 0 = (nI ((a_runL cn fy n σ).1 0 12)).toInt64 ∧ cR cn fy (a_runL cn fy n σ) S')) := by
  refine mh_M_of (by decide) (Nat.le_of_ble_eq_true rfl) ?_
  intro p e s m args below meth c A ad C hR hE
  refine mw_aload_n C 2 d_La_run_0 rfl rfl ?_
  refine mw_iconst C (v := nI 0) d_La_run_1 (by decide) ?_
  refine mw_aload_n C 0 d_La_run_2 rfl rfl ?_
  refine mw_iload_n C 1 d_La_run_3 rfl rfl ?_
  refine mw_runi C ix_Wl_He rfl (mw_invV C (kk := 0) (m_Wl_run_0 l D cA cn σ fy B n _ (cR_rs h) hJ hB hn) ix_Wl_He kb_La_17 wm_Wl_run wv_Wl_run (by decide) rfl rfl d_La_run_4 rfl rfl (Nat.le_of_ble_eq_true rfl) rfl rfl ⟨by decide, by decide⟩ ⟨Nat.zero_le _, Nat.zero_le _⟩) (fun x4 S4 e4 => ?_)
  obtain ⟨rfl, e4⟩ := e4
  refine mw_i2l C d_La_run_7 ?_
  refine mw_lastN C rfl d_La_run_8 (by decide) rfl (by omega) (by decide) ?_
  refine mw_goto C 15 d_La_run_9 (by decide) ?_
  refine mw_iconst C (v := nI 0) d_La_run_15 (by decide) ?_
  refine mh_iret C hR d_La_run_16 ?_
  exact ⟨rfl, rfl, cR_he (cR_mg e4) _⟩
set_option maxHeartbeats 4000000 in
set_option maxRecDepth 100000 in
theorem mh_La_transfer_0 (l : Launch) (htr : l.stackTraces = false) (D : va_G) (cA : Nat → ClassId) (bd : Nat) (cn : Int32) (σ : aS) (fy B k1 k2 k3 k4 : Nat) (S : mw_S) (h : cR cn fy σ S) (hJ : aJ fy B σ) (hk : k1 < 4) (he : ¬ k1 = fy) (hk2 : k2 < 4) (hk3 : k3 < 4) (hk4 : 1 ≤ k4) (hk5 : k4 ≤ 99) (hq : σ.1 20 k1 < 12) : mh_M l lw_tbl y_La_transfer b_La_transfer 7 (some .int) [(0, 14, 17, 13), (0, 14, 21, 15)] { frames := 7, cells := 1, slots := 6, locals := 107 } D vCl cA sh_He 70 [.inr (.inr 0), .inl (nI k1), .inl (nI k2), .inl (nI k3), .inl (nI k4), .inr (.inr 69)] (S) bd (mw_Pi (fun r S' => r = nI 0 ∧ S'.2 69 0 = (nI (σ.1 20 k1 + 1)).toInt64 ∧ cR cn fy (a_queue σ k1 (1000 * k4 + 10 * k2 + k3)) S')) := by
  refine mh_M_of (by decide) (Nat.le_of_ble_eq_true rfl) ?_
  intro p e s m args below meth c A ad C hR hE
  refine mw_aload C d_La_transfer_0 rfl ?_
  refine mw_iconst C (v := nI 0) d_La_transfer_2 (by decide) ?_
  refine mw_aload_n C 0 d_La_transfer_3 rfl rfl ?_
  refine mw_iload_n C 1 d_La_transfer_4 rfl rfl ?_
  refine mw_iload_n C 2 d_La_transfer_5 rfl rfl ?_
  refine mw_iload_n C 3 d_La_transfer_6 rfl rfl ?_
  refine mw_iload C d_La_transfer_7 rfl ?_
  refine mw_runi C ix_Wl_He rfl (mw_invV C (kk := 0) (m_Wl_transfer_0 l D cA cn σ fy B k1 k2 k3 k4 _ (cR_rs h) hJ hk he hk2 hk3 hk4 hk5 hq) ix_Wl_He kb_La_7 wm_Wl_transfer wv_Wl_transfer (by decide) rfl rfl d_La_transfer_9 rfl rfl (Nat.le_of_ble_eq_true rfl) rfl rfl ⟨by decide, by decide⟩ ⟨Nat.zero_le _, Nat.zero_le _⟩) (fun x9 S9 e9 => ?_)
  obtain ⟨rfl, e9⟩ := e9
  refine mw_i2l C d_La_transfer_12 ?_
  refine mw_lastN C rfl d_La_transfer_13 (by decide) rfl (by omega) (by decide) ?_
  refine mw_goto C 25 d_La_transfer_14 (by decide) ?_
  refine mw_iconst C (v := nI 0) d_La_transfer_25 (by decide) ?_
  refine mh_iret C hR d_La_transfer_26 ?_
  exact ⟨rfl, rfl, cR_he (cR_mg e9) _⟩
set_option maxHeartbeats 4000000 in
set_option maxRecDepth 100000 in
theorem mh_La_forge_0 (l : Launch) (htr : l.stackTraces = false) (D : va_G) (cA : Nat → ClassId) (bd : Nat) (cn : Int32) (σ : aS) (fy B r k t : Nat) (x4 : Int32) (x3 : Int64) (S : mw_S) (h : cR cn fy σ S) (hJ : aJ fy B σ) (hr1 : 1 ≤ r) (hr2 : r ≤ 12) (hk : k ≤ 15) (h3 : x3 &&& (-281474976710656) = 0) (h4 : tOK x4) (hx4 : x4 = nI t) (hgood : fy < 4) (hfg : σ.1 0 10 < 24) : mh_M l lw_tbl y_La_forge b_La_forge 8 (some .int) [(0, 14, 17, 13), (0, 14, 21, 15)] { frames := 7, cells := 1, slots := 6, locals := 107 } D vCl cA sh_He 70 [.inr (.inr 0), .inl (nI r), .inl (nI k), .inr (.inl x3), .inl x4, .inr (.inr 69)] (S) bd (mw_Pi (fun r' S' => r' = nI 0 ∧ S'.2 69 0 = (nI (σ.1 0 5 + 1)).toInt64 ∧ cR cn fy (a_newV (a_up σ 0 10 (σ.1 0 10 + 1)) (4 * (r - 1) + fy) k x3 t) S')) := by
  refine mh_M_of (by decide) (Nat.le_of_ble_eq_true rfl) ?_
  intro p e s m args below meth c A ad C hR hE
  refine mw_aload C d_La_forge_0 rfl ?_
  refine mw_iconst C (v := nI 0) d_La_forge_2 (by decide) ?_
  refine mw_aload_n C 0 d_La_forge_3 rfl rfl ?_
  refine mw_iload_n C 1 d_La_forge_4 rfl rfl ?_
  refine mw_iload_n C 2 d_La_forge_5 rfl rfl ?_
  refine mw_lload_n C 3 d_La_forge_6 rfl rfl ?_
  refine mw_iload C d_La_forge_7 rfl ?_
  refine mw_runi C ix_Wl_He rfl (mw_invV C (kk := 0) (m_Wl_forge_0 l D cA cn σ fy B r k t x4 x3 _ (cR_rs h) hJ hr1 hr2 hk h3 h4 hx4 hgood hfg) ix_Wl_He kb_La_21 wm_Wl_forge wv_Wl_forge (by decide) rfl rfl d_La_forge_9 rfl rfl (Nat.le_of_ble_eq_true rfl) rfl rfl ⟨by decide, by decide⟩ ⟨Nat.zero_le _, Nat.zero_le _⟩) (fun x9 S9 e9 => ?_)
  obtain ⟨rfl, e9⟩ := e9
  refine mw_i2l C d_La_forge_12 ?_
  refine mw_lastN C rfl d_La_forge_13 (by decide) rfl (by omega) (by decide) ?_
  refine mw_goto C 25 d_La_forge_14 (by decide) ?_
  refine mw_iconst C (v := nI 0) d_La_forge_25 (by decide) ?_
  refine mh_iret C hR d_La_forge_26 ?_
  exact ⟨rfl, rfl, cR_he (cR_mg e9) _⟩
set_option maxHeartbeats 4000000 in
set_option maxRecDepth 100000 in
theorem mh_La_whisper_0 (l : Launch) (htr : l.stackTraces = false) (D : va_G) (cA : Nat → ClassId) (bd : Nat) (cn : Int32) (σ : aS) (fy kd k2 v : Nat) (S : mw_S) (h : cR cn fy σ S) (hkd : kd ≤ 2) (hk2 : k2 < 4) (he : ¬ k2 = fy) (hv1 : 1 ≤ v) (hv2 : v ≤ σ.1 0 5) (hvs : σ.1 0 5 < 79) (hgood : fy < 4) (hm : σ.1 0 12 < 2240) : mh_M l lw_tbl y_La_whisper b_La_whisper 6 (some .int) [(0, 12, 15, 13), (0, 12, 19, 15)] { frames := 7, cells := 1, slots := 6, locals := 105 } D vCl cA sh_He 70 [.inr (.inr 0), .inl (nI kd), .inl (nI k2), .inl (nI v), .inr (.inr 69)] (S) bd (mw_Pi (fun r S' => r = nI 0 ∧ S'.2 69 0 = (nI (σ.1 0 12 + 1)).toInt64 ∧ cR cn fy (a_send fy σ kd fy k2 v) S')) := by
  refine mh_M_of (by decide) (Nat.le_of_ble_eq_true rfl) ?_
  intro p e s m args below meth c A ad C hR hE
  refine mw_aload C d_La_whisper_0 rfl ?_
  refine mw_iconst C (v := nI 0) d_La_whisper_2 (by decide) ?_
  refine mw_aload_n C 0 d_La_whisper_3 rfl rfl ?_
  refine mw_iload_n C 1 d_La_whisper_4 rfl rfl ?_
  refine mw_iload_n C 2 d_La_whisper_5 rfl rfl ?_
  refine mw_iload_n C 3 d_La_whisper_6 rfl rfl ?_
  refine mw_runi C ix_Wl_He rfl (mw_invV C (kk := 0) (m_Wl_whisper_0 l D cA cn σ fy kd k2 v _ (cR_rs h) hkd hk2 he hv1 hv2 hvs hgood hm) ix_Wl_He kb_La_25 wm_Wl_whisper wv_Wl_whisper (by decide) rfl rfl d_La_whisper_7 rfl rfl (Nat.le_of_ble_eq_true rfl) rfl rfl ⟨by decide, by decide⟩ ⟨Nat.zero_le _, Nat.zero_le _⟩) (fun x7 S7 e7 => ?_)
  obtain ⟨rfl, e7⟩ := e7
  refine mw_i2l C d_La_whisper_10 ?_
  refine mw_lastN C rfl d_La_whisper_11 (by decide) rfl (by omega) (by decide) ?_
  refine mw_goto C 23 d_La_whisper_12 (by decide) ?_
  refine mw_iconst C (v := nI 0) d_La_whisper_23 (by decide) ?_
  refine mh_iret C hR d_La_whisper_24 ?_
  exact ⟨rfl, rfl, cR_he (cR_mg e7) _⟩
