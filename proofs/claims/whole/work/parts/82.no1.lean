/-! the node's methods: leaders, support -/
theorem nR_rs {cn : Int32} {fy node : Nat} {σ : aS} {S : mw_S} (h : nR cn fy node σ S) : nR cn fy node σ (mw_rs S [0, 1, 2, 3, 4, 5, 6, 7, 8, 9, 10, 11, 12, 13, 14, 15, 16, 17, 18, 19, 20, 21]) := (nR_mk (h.se) (h.co) (h.ec) (h.rd) (h.ow) (h.cm) (h.lw) (h.ad) (h.ac) (h.pa) (h.sp) (h.en) (h.oc) (h.od) (h.ba) (h.qc) (h.qu) (h.ev) (h.rv) (h.vn) (h.vp) (h.vs) (h.vw) (h.vt) (h.si) (h.mc) (h.mw))
theorem nR_mg {cn : Int32} {fy node : Nat} {σ : aS} {S S1 : mw_S} (h : nR cn fy node σ S1) : nR cn fy node σ (mw_mg S [0, 1, 2, 3, 4, 5, 6, 7, 8, 9, 10, 11, 12, 13, 14, 15, 16, 17, 18, 19, 20, 21] S1) := (nR_mk (h.se) (h.co) (h.ec) (h.rd) (h.ow) (h.cm) (h.lw) (h.ad) (h.ac) (h.pa) (h.sp) (h.en) (h.oc) (h.od) (h.ba) (h.qc) (h.qu) (h.ev) (h.rv) (h.vn) (h.vp) (h.vs) (h.vw) (h.vt) (h.si) (h.mc) (h.mw))
theorem ldu_eq (x : Int32) {t : Nat} (ht : t ≤ 4) : (x.toUInt32 >>> ((nI t).toUInt32 &&& Int32.toUInt32 31)).toInt32 &&& nI 3 = nI (x.toBitVec.toNat / 2 ^ t % 4) := by
  rw [pk_and _ (m := nI 3) 2 (by decide), pk_ushr x (nI t) t (s_u t (by omega))]
set_option maxHeartbeats 4000000 in
set_option maxRecDepth 100000 in
theorem m_No_leaderOf (l : Launch) (D : va_G) (cA : Nat → ClassId) (cn : Int32) (w0 : Nat) (S : mw_S) (h : S.1 0 1 = cn) (hw : 1 ≤ w0) (hw2 : w0 ≤ 3) : mw_M false l lw_tbl y_No_leaderOf b_No_leaderOf 3 (some .int) { frames := 1, cells := 0, slots := 0, locals := 21 } D vCl cA sh_No 22 [.inr (.inr 0), .inl (nI w0)] (S) (mw_Pi (fun z _ => z = nI (a_lead cn w0))) := by
  refine mw_M_of (by decide) (Nat.le_of_ble_eq_true rfl) ?_
  intro p e s m args below meth c A ad C hR
  refine mw_aload_n C 0 d_No_leaderOf_0 rfl rfl ?_
  refine mw_geti C f_No_43 d_No_leaderOf_1 (by decide) rfl rfl ?_
  refine mw_eqi h ?_
  refine mw_iconst C (v := nI 2) d_No_leaderOf_4 (by decide) ?_
  refine mw_iload_n C 1 d_No_leaderOf_5 rfl rfl ?_
  refine mw_iconst C (v := nI 1) d_No_leaderOf_6 (by decide) ?_
  refine mw_isubN C d_No_leaderOf_7 (by omega) ?_
  refine mw_imulN C d_No_leaderOf_8 ?_
  refine mw_iushr C d_No_leaderOf_9 ?_
  refine mw_iconst C (v := nI 3) d_No_leaderOf_10 (by decide) ?_
  refine mw_iand C d_No_leaderOf_11 ?_
  refine mw_eqi (ldu_eq cn (t := 2 * (w0 - 1)) (by omega)) ?_
  refine mw_istore_n C 2 d_No_leaderOf_12 rfl (by decide) ?_
  refine mw_iconst C (v := nI 4) d_No_leaderOf_13 (by decide) ?_
  refine mw_iload_n C 1 d_No_leaderOf_14 rfl rfl ?_
  refine mw_iconst C (v := nI 1) d_No_leaderOf_15 (by decide) ?_
  refine mw_isubN C d_No_leaderOf_16 (by omega) ?_
  refine mw_imulN C d_No_leaderOf_17 ?_
  refine mw_iconst C (v := nI 1) d_No_leaderOf_18 (by decide) ?_
  refine mw_iaddN C d_No_leaderOf_19 ?_
  refine mw_iload_n C 2 d_No_leaderOf_20 rfl rfl ?_
  refine mw_run0i C (ix0 _ _) (mw_invS C (m_Wl_numberOf l D cA (4 * (w0 - 1) + 1) (cn.toBitVec.toNat / 2 ^ (2 * (w0 - 1)) % 4) (by omega) _) (ix0 _ _) kb_No_134 ws_Wl_numberOf d_No_leaderOf_21 rfl rfl (Nat.le_of_ble_eq_true rfl) rfl rfl ⟨by decide, by decide⟩ ⟨Nat.zero_le _, Nat.zero_le _⟩) (fun x21 e21 => ?_)
  subst e21
  refine mw_iret C hR d_No_leaderOf_24 ?_
  unfold a_lead
  congr 1
  omega
theorem inR_four (σ : aS) (node : Nat) {r : Nat} (hr : 1 ≤ r) (hr2 : r ≤ 12) : four (a_setF σ 9 node 48) (4 * (r - 1)) = a_inR σ node r 4 := by
  have e : ∀ s, s < 4 → (lb (a_setF σ 9 node 48) (4 * (r - 1) + s)).toNat = if σ.1 9 (48 * node + 4 * (r - 1) + s) = 0 then 0 else 1 := fun s hs => by
    rw [lb_set (by omega), show 48 * node + (4 * (r - 1) + s) = 48 * node + 4 * (r - 1) + s from by omega]
    by_cases h : σ.1 9 (48 * node + 4 * (r - 1) + s) = 0
    · rw [decide_eq_true h, if_pos h]
      rfl
    · rw [decide_eq_false h, if_neg h]
      rfl
  have e0 := e 0 (by decide)
  rw [Nat.add_zero] at e0
  unfold four
  rw [e0, e 1 (by decide), e 2 (by decide), e 3 (by decide)]
  simp only [a_inR]
  repeat' split
  all_goals first | rfl | omega
/-- the support that the class counts -/
theorem sup_eq {cn : Int32} {σ : aS} {node w : Nat} (hg : a_gi σ node) (hw : 1 ≤ w) (hw2 : w ≤ 3) {rows : Nat → Int64} (hr : ∀ q, q < 48 → rows q = a_row σ node true q) : ∀ k, k ≤ 4 → gr_sup rows (4 * w) (a_lead cn w) k = a_sup σ node w (a_lead cn w) k
  | 0, _ => rfl
  | k + 1, hk => by
    have hl : a_lead cn w < 16 * w - 12 := by
      unfold a_lead
      have := Nat.mod_lt (cn.toBitVec.toNat / 2 ^ (2 * (w - 1))) (show 0 < 4 from by decide)
      omega
    rw [gr_sup, a_sup, sup_eq hg hw hw2 hr k (by omega), show 4 * (4 * w - 1) + k = 16 * w - 4 + k from by omega, hr _ (by omega)]
    congr 1
    by_cases h9 : σ.1 9 (48 * node + (16 * w - 4 + k)) = 0
    · rw [a_row, if_pos h9, lb_0, if_neg (fun h => by omega)]
      rfl
    · rw [bl_bit_row hg (by omega) h9 true, lb_or, lb_pow (by omega), decide_eq_false (by omega), Bool.false_or]
      cases hb : lb (a_row σ node true (16 * w - 4 + k)) (a_lead cn w)
      · rw [if_neg (fun h => by cases h.2)]
        rfl
      · rw [if_pos ⟨by omega, rfl⟩]
        rfl
def a_may (cn : Int32) (σ : aS) (node w : Nat) : Bool := !decide (σ.1 9 (48 * node + a_lead cn w) = 0) && decide (3 ≤ a_sup σ node w (a_lead cn w) 4)
set_option maxHeartbeats 4000000 in
set_option maxRecDepth 100000 in
theorem m_No_mayCommit (l : Launch) (D : va_G) (cA : Nat → ClassId) (cn : Int32) (σ : aS) (fy node w0 : Nat) (S : mw_S) (h : nR cn fy node σ S) (hg : a_gi σ node) (hw : 1 ≤ w0) (hw2 : w0 ≤ 3) : mw_M false l lw_tbl y_No_mayCommit b_No_mayCommit 3 (some .boolean) { frames := 3, cells := 0, slots := 0, locals := 68 } D vCl cA sh_No 22 [.inr (.inr 0), .inl (nI w0)] (S) (mw_Pi (fun z _ => z = nI (a_may cn σ node w0).toNat)) := by
  refine mw_M_of (by decide) (Nat.le_of_ble_eq_true rfl) ?_
  intro p e s m args below meth c A ad C hR
  have hL := a_lead_lt cn (w := w0) hw2
  refine mw_aload_n C 0 d_No_mayCommit_0 rfl rfl ?_
  refine mw_iload_n C 1 d_No_mayCommit_1 rfl rfl ?_
  refine mw_run0i C ix_No_No (mw_invV C (kk := 0) (m_No_leaderOf l D cA cn w0 _ h.co hw hw2) ix_No_No kb_No_146 wm_No_leaderOf wv_No_leaderOf (by decide) rfl rfl d_No_mayCommit_2 rfl rfl (Nat.le_of_ble_eq_true rfl) rfl rfl ⟨by decide, by decide⟩ ⟨Nat.zero_le _, Nat.zero_le _⟩) (fun x2 e2 => ?_)
  subst e2
  refine mw_istore_n C 2 d_No_mayCommit_5 rfl (by decide) ?_
  refine mw_aload_n C 0 d_No_mayCommit_6 rfl rfl ?_
  refine mw_getr C f_No_59 d_No_mayCommit_7 (by decide) rfl rfl ?_
  refine mw_iload_n C 2 d_No_mayCommit_10 rfl rfl ?_
  refine mw_run0i C ix_Gr_No (mw_invV C (kk := 0) (m_Gr_has l D cA (a_lead cn w0) (by omega) _) ix_Gr_No kb_No_149 wm_Gr_has wv_Gr_has (by decide) rfl rfl d_No_mayCommit_11 rfl rfl (Nat.le_of_ble_eq_true rfl) rfl rfl ⟨by decide, by decide⟩ ⟨Nat.zero_le _, Nat.zero_le _⟩) (fun x11 e11 => ?_)
  subst e11
  have e1 : lb (S.2 1 4) (a_lead cn w0) = !decide (σ.1 9 (48 * node + a_lead cn w0) = 0) := by rw [h.ad, lb_set hL]
  by_cases h9 : σ.1 9 (48 * node + a_lead cn w0) = 0
  ·
    refine mw_eqi (show _ = nI 0 from by show nI (lb (S.2 1 4) (a_lead cn w0)).toNat = _; rw [e1, decide_eq_true h9]; rfl) ?_
    refine mw_if_eqN C 36 d_No_mayCommit_14 (by decide) (by omega) (fun h14 => ?_) (fun h14 => ?_)
    ·
      refine mw_iconst C (v := nI 0) d_No_mayCommit_36 (by decide) ?_
      refine mw_zret C hR d_No_mayCommit_37 (by decide) ?_
      unfold a_may
      rw [decide_eq_true h9]
      rfl
    · exfalso; omega
  ·
    refine mw_eqi (show _ = nI 1 from by show nI (lb (S.2 1 4) (a_lead cn w0)).toNat = _; rw [e1, decide_eq_false h9]; rfl) ?_
    refine mw_if_eqN C 36 d_No_mayCommit_14 (by decide) (by omega) (fun h14 => ?_) (fun h14 => ?_)
    · exfalso; omega
    ·
      refine mw_aload_n C 0 d_No_mayCommit_17 rfl rfl ?_
      refine mw_getr C f_No_59 d_No_mayCommit_18 (by decide) rfl rfl ?_
      refine mw_iconst C (v := nI 4) d_No_mayCommit_21 (by decide) ?_
      refine mw_iload_n C 1 d_No_mayCommit_22 rfl rfl ?_
      refine mw_imulN C d_No_mayCommit_23 ?_
      refine mw_iload_n C 2 d_No_mayCommit_24 rfl rfl ?_
      refine mw_run0i C ix_Gr_No (mw_invV C (kk := 0) (m_Gr_supportFrom l D cA (4 * w0) (a_lead cn w0) (by omega) (by omega) (by omega) _) ix_Gr_No kb_No_152 wm_Gr_supportFrom wv_Gr_supportFrom (by decide) rfl rfl d_No_mayCommit_25 rfl rfl (Nat.le_of_ble_eq_true rfl) rfl rfl ⟨by decide, by decide⟩ ⟨Nat.zero_le _, Nat.zero_le _⟩) (fun x25 e25 => ?_)
      subst e25
      have hsl := a_sup_le σ node w0 (a_lead cn w0) 4
      refine mw_eqi (show _ = nI (a_sup σ node w0 (a_lead cn w0) 4) from by congr 1; exact sup_eq hg hw hw2 h.sp 4 (Nat.le_refl _)) ?_
      refine mw_iconst C (v := nI 3) d_No_mayCommit_28 (by decide) ?_
      refine mw_icmp_ltN C 36 d_No_mayCommit_29 (by decide) (by omega) (by omega) (fun h29 => ?_) (fun h29 => ?_)
      ·
        refine mw_iconst C (v := nI 0) d_No_mayCommit_36 (by decide) ?_
        refine mw_zret C hR d_No_mayCommit_37 (by decide) ?_
        unfold a_may
        rw [decide_eq_false (p := 3 ≤ _) (by omega), Bool.and_false]
        rfl
      ·
        refine mw_iconst C (v := nI 1) d_No_mayCommit_32 (by decide) ?_
        refine mw_goto C 37 d_No_mayCommit_33 (by decide) ?_
        refine mw_zret C hR d_No_mayCommit_37 (by decide) ?_
        unfold a_may
        rw [decide_eq_false h9, decide_eq_true (p := 3 ≤ _) (by omega)]
        rfl
