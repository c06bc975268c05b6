/-! the node goes on -/
theorem a_done_may (cn : Int32) (σ : aS) (node w : Nat) : a_done cn σ node w = if a_may cn σ node w = true then a_fin node w (a_chain cn node (σ.1 16 node) (w - 1 - σ.1 16 node) 1 (a_up σ 21 0 (a_lead cn w))) else σ := by
  unfold a_done a_may
  by_cases h : σ.1 9 (48 * node + a_lead cn w) = 0
  · rw [if_pos h, decide_eq_true h, if_neg (by simp)]
  · rw [if_neg h, decide_eq_false h]
    by_cases h3 : a_sup σ node w (a_lead cn w) 4 < 3
    · rw [if_pos h3, decide_eq_false (by omega), if_neg (by simp)]
    · rw [if_neg h3, decide_eq_true (by omega), if_pos (by simp)]
theorem pop4_mono : ∀ a, a < 16 → ∀ b, b < 16 → a &&& b = a → pop4 a ≤ pop4 b := by decide +kernel
theorem pop4_0 : ∀ a, a < 16 → 3 ≤ pop4 a → ∃ s, s < 4 ∧ a.testBit s = true := by decide +kernel
/-- a round with a quorum stands on a round with a quorum -/
theorem q_down {fy B : Nat} {σ : aS} (hI : aI fy B σ) {node : Nat} (hn : node < 4) (hg : a_gi σ node) {r : Nat} (hr : 1 ≤ r) (hr2 : r ≤ 11) (h : 3 ≤ pop4 (a_inR σ node (r + 1) 4)) : 3 ≤ pop4 (a_inR σ node r 4) := by
  obtain ⟨s, hs, hb⟩ := pop4_0 _ (a_inR_lt σ node (r + 1) 4) h
  rw [← inR_four σ node (r := r + 1) (by omega) (by omega), tb_four, decide_eq_true hs, Bool.true_and, lb_set (by omega)] at hb
  have h9 : ¬ σ.1 9 (48 * node + (4 * (r + 1 - 1) + s)) = 0 := by
    intro h0
    rw [decide_eq_true h0] at hb
    cases hb
  obtain ⟨g1, g2, g3⟩ := hg _ (by omega) h9
  have hac := (hI.ac node (4 * (r + 1 - 1) + s) hn (by omega)).2 (by omega)
  have hst := hI.st (σ.1 8 (48 * node + (4 * (r + 1 - 1) + s)))
  generalize σ.1 8 (48 * node + (4 * (r + 1 - 1) + s)) = u at *
  have hq4 : σ.1 1 u / 4 = r := by omega
  unfold a_right ve_right at g2
  rw [hq4, if_neg (by omega)] at g2
  simp only [Bool.and_eq_true, decide_eq_true_eq] at g2
  refine Nat.le_trans g2.1 (pop4_mono _ hst _ (a_inR_lt σ node r 4) ?_)
  apply Nat.eq_of_testBit_eq
  intro i
  rw [Nat.testBit_and]
  cases hi : (σ.1 2 u).testBit i
  · rfl
  · rw [Bool.true_and]
    have hi4 : i < 4 := by
      apply Nat.lt_of_not_le
      intro hge
      have hpw : 2 ^ 4 ≤ 2 ^ i := Nat.pow_le_pow_right (by decide) hge
      rw [Nat.testBit_lt_two_pow (by omega)] at hi
      cases hi
    have hpt : lb (a_points σ u false) (4 * (r - 1) + i) = true := by
      unfold a_points ve_down
      rw [if_neg (by decide), hq4, if_neg (by omega), lb_or, lb_shl (by omega), decide_eq_true (show 4 * (r - 1) + i < 64 from by omega), decide_eq_true (show 4 * (r - 1) ≤ 4 * (r - 1) + i from by omega), show 4 * (r - 1) + i - 4 * (r - 1) = i from by omega, hi]
      rfl
    have h92 := (g3 _ (by omega) hpt).2
    rw [← inR_four σ node hr (by omega), tb_four, decide_eq_true hi4, lb_set (by omega), decide_eq_false h92]
    rfl
theorem q_downs {fy B : Nat} {σ : aS} (hI : aI fy B σ) {node : Nat} (hn : node < 4) (hg : a_gi σ node) (h : 3 ≤ pop4 (a_inR σ node 12 4)) : ∀ d, d ≤ 11 → 3 ≤ pop4 (a_inR σ node (12 - d) 4)
  | 0, _ => h
  | d + 1, hd => q_down hI hn hg (by omega) (by omega) (by rw [show 12 - (d + 1) + 1 = 12 - d from by omega]; exact q_downs hI hn hg h d (by omega))
theorem nR_14 {cn : Int32} {fy node : Nat} {σ : aS} {S : mw_S} (h : nR cn fy node σ S) (w : Nat) : nR cn fy node (a_up σ 14 node w) (mw_uI S 0 12 (nI w)) := (nR_mk (h.se) (h.co) (by rw [a_setF_ne _ (by decide)]; exact h.ec) (by rw [a_setF_ne _ (by decide)]; exact h.rd) (by rw [a_up_s]; rfl) (h.cm) (h.lw) (by rw [a_setF_ne _ (by decide)]; exact h.ad) (h.ac) (fun q hq => by rw [a_row_up _ _ _ _ (by decide)]; exact h.pa q hq) (fun q hq => by rw [a_row_up _ _ _ _ (by decide)]; exact h.sp q hq) (by rw [a_setF_ne _ (by decide)]; exact h.en) (h.oc) (h.od) (h.ba) (h.qc) (h.qu) (h.ev) (h.rv) (h.vn) (h.vp) (h.vs) (h.vw) (h.vt) (h.si) (h.mc) (h.mw))
theorem nR_15 {cn : Int32} {fy node : Nat} {σ : aS} {S : mw_S} (h : nR cn fy node σ S) (w : Nat) : nR cn fy node (a_up σ 15 node w) (mw_uI S 0 14 (nI w)) := (nR_mk (h.se) (h.co) (by rw [a_setF_ne _ (by decide)]; exact h.ec) (by rw [a_setF_ne _ (by decide)]; exact h.rd) (h.ow) (h.cm) (by rw [a_up_s]; rfl) (by rw [a_setF_ne _ (by decide)]; exact h.ad) (h.ac) (fun q hq => by rw [a_row_up _ _ _ _ (by decide)]; exact h.pa q hq) (fun q hq => by rw [a_row_up _ _ _ _ (by decide)]; exact h.sp q hq) (by rw [a_setF_ne _ (by decide)]; exact h.en) (h.oc) (h.od) (h.ba) (h.qc) (h.qu) (h.ev) (h.rv) (h.vn) (h.vp) (h.vs) (h.vw) (h.vt) (h.si) (h.mc) (h.mw))
theorem a_gi_done {cn : Int32} {σ : aS} {node w : Nat} {n : Nat} (hg : a_gi σ n) : a_gi (a_done cn σ node w) n := a_gi_kp hg (a_done_kp cn σ node w) (by unfold a_F; decide)
theorem a_gi_wave {cn : Int32} {σ : aS} {node n : Nat} (hg : a_gi σ n) : a_gi (a_wave cn σ node) n := a_gi_kp hg (a_wave_kp cn σ node) (by unfold a_F; decide)
theorem a_gi_mkV {fy B : Nat} {σ : aS} (hI : aI fy B σ) {n : Nat} (hn : n < 4) (hg : a_gi σ n) (fy' node r : Nat) : a_gi (a_mkV fy' σ node r) n := by
  unfold a_mkV
  exact a_gi_kp (a_gi_newV (aI_first hI node) hn (a_gi_kp hg (a_first_kp σ node) (by decide)) _ _ _ _) (a_cast_kp _ _ _ _ _ 4).1 (by unfold a_S; decide)
theorem a_gi_step {fy B : Nat} {σ : aS} (hI : aI fy B σ) (cn : Int32) {node n : Nat} (hnd : node < 4) (hn : n < 4) (ho : σ.1 14 node < 12) (hg : a_gi σ n) : a_gi (a_step cn fy σ node) n := by
  unfold a_step
  exact a_gi_mkV (aI_pre hI cn hnd ho).2.1 hn (a_gi_wave (cn := cn) (node := node) hg) _ _ _
set_option maxHeartbeats 4000000 in
set_option maxRecDepth 100000 in
theorem m_No_goOn (l : Launch) (D : va_G) (cA : Nat → ClassId) (cn : Int32) (σ : aS) (fy B node : Nat) (S : mw_S) (h : nR cn fy node σ S) (hI : aI fy B σ) (hg : a_gi σ node) (hn : node < 4) (hB : B ≤ 2240) : mw_M true l lw_tbl y_No_goOn b_No_goOn 2 none { frames := 4, cells := 0, slots := 0, locals := 102 } D vCl cA sh_No 22 [.inr (.inr 0)] (S) (mw_Pv (fun S' => nR cn fy node (a_goOn cn fy σ node) S')) := by
  refine mw_M_of (by decide) (Nat.le_of_ble_eq_true rfl) ?_
  intro p e s m args below meth c A ad C hR
  have E : ∀ (τ : aS) (S1 : mw_S), nR cn fy node τ S1 → aI fy B τ → a_gi τ node → (τ.1 14 node = 12 ∨ a_full τ node = false) → a_goE cn τ node = a_goOn cn fy σ node → mw p l e { frames := 4, cells := 0, slots := 0, locals := 102 } s m args below meth c (MQ below (mw_Qc true D vCl cA ad sh_No 22 s.heap.size (S) (mw_Pv (fun S' => nR cn fy node (a_goOn cn fy σ node) S'))) args s 0 0 A) 0 0 D vCl cA A ad sh_No 22 2 (81) ([(0, .inr (.inr 0))]) ([]) (S1) := by
    intro τ S1 h hI hg hend he
    have ho := hI.ow node
    have h15 := hI.f15 node
    refine mw_aload_n C 0 d_No_goOn_81 rfl rfl ?_
    refine mw_geti C f_No_124 d_No_goOn_82 (by decide) rfl rfl ?_
    refine mw_eqi h.lw ?_
    refine mw_if_neN C 118 d_No_goOn_85 (by decide) (by omega) (fun h85 => ?_) (fun h85 => ?_)
    ·
      refine mw_vret C hR d_No_goOn_118 ?_
      rw [← he, a_goE, if_neg (fun hh => by omega)]
      exact h
    ·
      refine mw_aload_n C 0 d_No_goOn_88 rfl rfl ?_
      refine mw_getr C f_No_59 d_No_goOn_89 (by decide) rfl rfl ?_
      refine mw_bipush C (v := nI 12) d_No_goOn_92 (by decide) ?_
      refine mw_run0i C ix_Gr_No (mw_invV C (kk := 0) (m_Gr_hasQuorumIn l D cA 12 (by decide) (by decide) _) ix_Gr_No kb_No_111 wm_Gr_hasQuorumIn wv_Gr_hasQuorumIn (by decide) rfl rfl d_No_goOn_94 rfl rfl (Nat.le_of_ble_eq_true rfl) rfl rfl ⟨by decide, by decide⟩ ⟨Nat.zero_le _, Nat.zero_le _⟩) (fun x94 e94 => ?_)
      subst e94
      have eq12 : four ((mw_rs S1 [1, 2, 3, 4, 15, 16, 17, 18, 19]).2 0 4) (4 * (12 - 1)) = a_inR τ node 12 4 := by
        show four (S1.2 1 4) _ = _
        rw [h.ad]
        exact inR_four τ node (by decide) (by decide)
      rw [eq12]
      by_cases hq : 3 ≤ pop4 (a_inR τ node 12 4)
      ·
        refine mw_eqi (show _ = nI 1 from by rw [decide_eq_true hq]; rfl) ?_
        have h12 : τ.1 14 node = 12 := by
          rcases hend with h5 | h5
          · exact h5
          · exfalso
            unfold a_full at h5
            rw [Bool.or_eq_false_iff] at h5
            have h6 := of_decide_eq_false h5.1
            have h7 := of_decide_eq_false h5.2
            have h8 := q_downs hI hn hg hq (12 - τ.1 14 node) (by omega)
            rw [show 12 - (12 - τ.1 14 node) = τ.1 14 node from by omega] at h8
            exact h7 h8
        have hfull : a_full τ node = true := by
          unfold a_full
          rw [h12, decide_eq_true hq, Bool.or_true]
        refine mw_if_eqN C 118 d_No_goOn_97 (by decide) (by omega) (fun h97 => ?_) (fun h97 => ?_)
        · exfalso; omega
        ·
          refine mw_aload_n C 0 d_No_goOn_100 rfl rfl ?_
          refine mw_iconst C (v := nI 1) d_No_goOn_101 (by decide) ?_
          refine mw_putz C rfl f_No_124 p_No_14 d_No_goOn_102 (by decide) rfl rfl (by decide) (by decide) ?_
          have h2 := nR_15 h 1
          refine mw_aload_n C 0 d_No_goOn_105 rfl rfl ?_
          refine mw_iconst C (v := nI 3) d_No_goOn_106 (by decide) ?_
          refine mw_run0i C ix_No_No (mw_invV C (kk := 0) (m_No_mayCommit l D cA cn _ fy node 3 _ (nR_rs h2) hg (by decide) (by decide)) ix_No_No kb_No_115 wm_No_mayCommit wv_No_mayCommit (by decide) rfl rfl d_No_goOn_107 rfl rfl (Nat.le_of_ble_eq_true rfl) rfl rfl ⟨by decide, by decide⟩ ⟨Nat.zero_le _, Nat.zero_le _⟩) (fun x107 e107 => ?_)
          subst e107
          by_cases hm : a_may cn (a_up τ 15 node 1) node 3 = true
          ·
            have h9L : ¬ τ.1 9 (48 * node + a_lead cn 3) = 0 := by
              intro h0
              have hm2 := hm
              unfold a_may at hm2
              rw [show (a_up τ 15 node 1).1 9 (48 * node + a_lead cn 3) = 0 from h0] at hm2
              cases hm2
            refine mw_eqi (show _ = nI 1 from by rw [hm]; rfl) ?_
            refine mw_if_eqN C 118 d_No_goOn_110 (by decide) (by omega) (fun h110 => ?_) (fun h110 => ?_)
            · exfalso; omega
            ·
              refine mw_aload_n C 0 d_No_goOn_113 rfl rfl ?_
              refine mw_iconst C (v := nI 3) d_No_goOn_114 (by decide) ?_
              refine mw_runv C ix_No_No rfl (mw_invV C (kk := 0) (m_No_commit l D cA cn _ fy B node 3 _ (nR_rs h2) (aI_15 hI node) hg hn (by decide) (by decide) h9L _ rfl) ix_No_No kb_No_118 wm_No_commit wv_No_commit (by decide) rfl rfl d_No_goOn_115 rfl rfl (Nat.le_of_ble_eq_true rfl) rfl rfl ⟨by decide, by decide⟩ ⟨Nat.zero_le _, Nat.zero_le _⟩) (fun S115 e115 => ?_)
              refine mw_vret C hR d_No_goOn_118 ?_
              rw [← he, a_goE, if_pos ⟨h12, h85, hfull⟩, a_done_may, if_pos hm]
              exact nR_mg e115
          ·
            refine mw_eqi (show _ = nI 0 from by rw [eq_false_of_ne_true hm]; rfl) ?_
            refine mw_if_eqN C 118 d_No_goOn_110 (by decide) (by omega) (fun h110 => ?_) (fun h110 => ?_)
            ·
              refine mw_vret C hR d_No_goOn_118 ?_
              rw [← he, a_goE, if_pos ⟨h12, h85, hfull⟩, a_done_may, if_neg hm]
              exact h2
            · exfalso; omega
      ·
        refine mw_eqi (show _ = nI 0 from by rw [decide_eq_false hq]; rfl) ?_
        refine mw_if_eqN C 118 d_No_goOn_97 (by decide) (by omega) (fun h97 => ?_) (fun h97 => ?_)
        ·
          refine mw_vret C hR d_No_goOn_118 ?_
          rw [← he, a_goE, if_neg (fun hh => by
            have h5 := hh.2.2
            unfold a_full at h5
            rw [hh.1, decide_eq_false hq] at h5
            cases h5)]
          exact h
        · exfalso; omega
  have L : ∀ (d : Nat) (τ : aS) (S1 : mw_S), 12 ≤ d + τ.1 14 node → nR cn fy node τ S1 → aI fy B τ → a_gi τ node → a_goE cn (a_goL cn fy node d τ) node = a_goOn cn fy σ node → mw p l e { frames := 4, cells := 0, slots := 0, locals := 102 } s m args below meth c (MQ below (mw_Qc true D vCl cA ad sh_No 22 s.heap.size (S) (mw_Pv (fun S' => nR cn fy node (a_goOn cn fy σ node) S'))) args s 0 0 A) 0 0 D vCl cA A ad sh_No 22 2 (0) ([(0, .inr (.inr 0))]) ([]) (S1) := by
    intro d
    induction d with
    | zero =>
      intro τ S1 hd h hI hg he
      have ho := hI.ow node
      refine mw_aload_n C 0 d_No_goOn_0 rfl rfl ?_
      refine mw_geti C f_No_108 d_No_goOn_1 (by decide) rfl rfl ?_
      refine mw_eqi h.ow ?_
      refine mw_bipush C (v := nI 12) d_No_goOn_4 (by decide) ?_
      refine mw_icmp_geN C 81 d_No_goOn_6 (by decide) (by omega) (by omega) (fun h6 => ?_) (fun h6 => ?_)
      ·
        exact mw_to _ (by exact And.intro rfl (trivial)) (E τ S1 h hI hg (Or.inl (by omega)) he)
      · exfalso; omega
    | succ d ih =>
      intro τ S1 hd h hI hg he
      have ho := hI.ow node
      have F : τ.1 14 node < 12 → a_full τ node = true → mw p l e { frames := 4, cells := 0, slots := 0, locals := 102 } s m args below meth c (MQ below (mw_Qc true D vCl cA ad sh_No 22 s.heap.size (S) (mw_Pv (fun S' => nR cn fy node (a_goOn cn fy σ node) S'))) args s 0 0 A) 0 0 D vCl cA A ad sh_No 22 2 (30) ([(0, .inr (.inr 0))]) ([]) (S1) := by
        intro hlt hf
        obtain ⟨h4, hI1, hv1⟩ := aI_pre hI cn hn hlt
        have e14 := (a_wave_kp cn τ node).1 14 node (by unfold a_F; decide)
        have M : ∀ S2 : mw_S, nR cn fy node (a_wave cn τ node) S2 → mw p l e { frames := 4, cells := 0, slots := 0, locals := 102 } s m args below meth c (MQ below (mw_Qc true D vCl cA ad sh_No 22 s.heap.size (S) (mw_Pv (fun S' => nR cn fy node (a_goOn cn fy σ node) S'))) args s 0 0 A) 0 0 D vCl cA A ad sh_No 22 2 (64) ([(0, .inr (.inr 0))]) ([]) (S2) := by
          intro S2 h
          have how : S2.1 0 12 = nI (τ.1 14 node) := by rw [← e14]; exact h.ow
          refine mw_aload_n C 0 d_No_goOn_64 rfl rfl ?_
          refine mw_dup C d_No_goOn_65 rfl ?_
          refine mw_geti C f_No_108 d_No_goOn_66 (by decide) rfl rfl ?_
          refine mw_eqi how ?_
          refine mw_iconst C (v := nI 1) d_No_goOn_69 (by decide) ?_
          refine mw_iaddN C d_No_goOn_70 ?_
          refine mw_puti C rfl f_No_108 p_No_12 d_No_goOn_71 (by decide) rfl rfl ?_
          refine mw_aload_n C 0 d_No_goOn_74 rfl rfl ?_
          refine mw_runv C ix_No_No rfl (mw_invV C (kk := 0) (m_No_broadcastOwnVertex l D cA cn _ fy (B - 4) node (τ.1 14 node + 1) _ (nR_rs (nR_14 h (τ.1 14 node + 1))) hI1 (a_gi_wave (cn := cn) (node := node) hg) hn (a_up_s _ _ _ _) (by omega) (by omega) hv1 (by omega)) ix_No_No kb_No_121 wm_No_broadcastOwnVertex wv_No_broadcastOwnVertex (by decide) rfl rfl d_No_goOn_75 rfl rfl (Nat.le_of_ble_eq_true rfl) rfl rfl ⟨by decide, by decide⟩ ⟨Nat.zero_le _, Nat.zero_le _⟩) (fun S75 e75 => ?_)
          refine mw_goto C 0 d_No_goOn_78 (by decide) ?_
          refine mw_to _ (by exact And.intro rfl (trivial)) (ih _ _ ?_ (nR_mg e75) (aI_step hI cn hn hlt) (a_gi_step hI cn hn hn hlt hg) ?_)
          · have := a_step_14 cn fy τ node
            unfold a_step at this
            rw [this]
            omega
          · rw [← he, a_goL, if_pos ⟨hlt, hf⟩]
            rfl
        refine mw_aload_n C 0 d_No_goOn_30 rfl rfl ?_
        refine mw_geti C f_No_108 d_No_goOn_31 (by decide) rfl rfl ?_
        refine mw_eqi h.ow ?_
        refine mw_iconst C (v := nI 4) d_No_goOn_34 (by decide) ?_
        refine mw_idivN C d_No_goOn_35 (by omega) (by decide) (by decide) ?_
        refine mw_istore_n C 1 d_No_goOn_36 rfl (by decide) ?_
        refine mw_iload_n C 1 d_No_goOn_37 rfl rfl ?_
        refine mw_if_leN C 64 d_No_goOn_38 (by decide) (by omega) (fun h38 => ?_) (fun h38 => ?_)
        ·
          refine mw_to _ (by exact And.intro rfl (trivial)) (M _ ?_)
          rw [a_wave, if_neg (fun hh => by omega)]
          exact h
        ·
          refine mw_aload_n C 0 d_No_goOn_41 rfl rfl ?_
          refine mw_geti C f_No_108 d_No_goOn_42 (by decide) rfl rfl ?_
          refine mw_eqi h.ow ?_
          refine mw_iconst C (v := nI 4) d_No_goOn_45 (by decide) ?_
          refine mw_iload_n C 1 d_No_goOn_46 rfl rfl ?_
          refine mw_imulN C d_No_goOn_47 ?_
          refine mw_icmp_neN C 64 d_No_goOn_48 (by decide) (by omega) (by omega) (fun h48 => ?_) (fun h48 => ?_)
          ·
            refine mw_to _ (by exact And.intro rfl (trivial)) (M _ ?_)
            rw [a_wave, if_neg (fun hh => by omega)]
            exact h
          ·
            refine mw_aload_n C 0 d_No_goOn_51 rfl rfl ?_
            refine mw_iload_n C 1 d_No_goOn_52 rfl rfl ?_
            refine mw_run0i C ix_No_No (mw_invV C (kk := 0) (m_No_mayCommit l D cA cn τ fy node (τ.1 14 node / 4) _ (nR_rs h) hg (by omega) (by omega)) ix_No_No kb_No_115 wm_No_mayCommit wv_No_mayCommit (by decide) rfl rfl d_No_goOn_53 rfl rfl (Nat.le_of_ble_eq_true rfl) rfl rfl ⟨by decide, by decide⟩ ⟨Nat.zero_le _, Nat.zero_le _⟩) (fun x53 e53 => ?_)
            subst e53
            by_cases hm : a_may cn τ node (τ.1 14 node / 4) = true
            ·
              have h9L : ¬ τ.1 9 (48 * node + a_lead cn (τ.1 14 node / 4)) = 0 := by
                intro h0
                have hm2 := hm
                unfold a_may at hm2
                rw [decide_eq_true h0] at hm2
                cases hm2
              refine mw_eqi (show _ = nI 1 from by rw [hm]; rfl) ?_
              refine mw_if_eqN C 64 d_No_goOn_56 (by decide) (by omega) (fun h56 => ?_) (fun h56 => ?_)
              · exfalso; omega
              ·
                refine mw_aload_n C 0 d_No_goOn_59 rfl rfl ?_
                refine mw_iload_n C 1 d_No_goOn_60 rfl rfl ?_
                refine mw_runv C ix_No_No rfl (mw_invV C (kk := 0) (m_No_commit l D cA cn τ fy B node (τ.1 14 node / 4) _ (nR_rs h) hI hg hn (by omega) (by omega) h9L _ rfl) ix_No_No kb_No_118 wm_No_commit wv_No_commit (by decide) rfl rfl d_No_goOn_61 rfl rfl (Nat.le_of_ble_eq_true rfl) rfl rfl ⟨by decide, by decide⟩ ⟨Nat.zero_le _, Nat.zero_le _⟩) (fun S61 e61 => ?_)
                refine mw_to _ (by exact And.intro rfl (trivial)) (M _ ?_)
                rw [a_wave, if_pos ⟨by omega, by omega⟩, a_done_may, if_pos hm]
                exact nR_mg e61
            ·
              refine mw_eqi (show _ = nI 0 from by rw [eq_false_of_ne_true hm]; rfl) ?_
              refine mw_if_eqN C 64 d_No_goOn_56 (by decide) (by omega) (fun h56 => ?_) (fun h56 => ?_)
              ·
                refine mw_to _ (by exact And.intro rfl (trivial)) (M _ ?_)
                rw [a_wave, if_pos ⟨by omega, by omega⟩, a_done_may, if_neg hm]
                exact h
              · exfalso; omega
      refine mw_aload_n C 0 d_No_goOn_0 rfl rfl ?_
      refine mw_geti C f_No_108 d_No_goOn_1 (by decide) rfl rfl ?_
      refine mw_eqi h.ow ?_
      refine mw_bipush C (v := nI 12) d_No_goOn_4 (by decide) ?_
      refine mw_icmp_geN C 81 d_No_goOn_6 (by decide) (by omega) (by omega) (fun h6 => ?_) (fun h6 => ?_)
      ·
        refine mw_to _ (by exact And.intro rfl (trivial)) (E τ S1 h hI hg (Or.inl (by omega)) ?_)
        rw [← he, a_goL, if_neg (fun hh => by omega)]
      ·
        refine mw_aload_n C 0 d_No_goOn_9 rfl rfl ?_
        refine mw_geti C f_No_108 d_No_goOn_10 (by decide) rfl rfl ?_
        refine mw_eqi h.ow ?_
        refine mw_if_eqN C 30 d_No_goOn_13 (by decide) (by omega) (fun h13 => ?_) (fun h13 => ?_)
        ·
          refine mw_to _ (by exact And.intro rfl (trivial)) (F (by omega) ?_)
          unfold a_full
          rw [decide_eq_true h13]
          rfl
        ·
          refine mw_aload_n C 0 d_No_goOn_16 rfl rfl ?_
          refine mw_getr C f_No_59 d_No_goOn_17 (by decide) rfl rfl ?_
          refine mw_aload_n C 0 d_No_goOn_20 rfl rfl ?_
          refine mw_geti C f_No_108 d_No_goOn_21 (by decide) rfl rfl ?_
          refine mw_eqi h.ow ?_
          refine mw_run0i C ix_Gr_No (mw_invV C (kk := 0) (m_Gr_hasQuorumIn l D cA (τ.1 14 node) (by omega) (by omega) _) ix_Gr_No kb_No_111 wm_Gr_hasQuorumIn wv_Gr_hasQuorumIn (by decide) rfl rfl d_No_goOn_24 rfl rfl (Nat.le_of_ble_eq_true rfl) rfl rfl ⟨by decide, by decide⟩ ⟨Nat.zero_le _, Nat.zero_le _⟩) (fun x24 e24 => ?_)
          subst e24
          have eqr : four ((mw_rs S1 [1, 2, 3, 4, 15, 16, 17, 18, 19]).2 0 4) (4 * (τ.1 14 node - 1)) = a_inR τ node (τ.1 14 node) 4 := by
            show four (S1.2 1 4) _ = _
            rw [h.ad]
            exact inR_four τ node (by omega) (by omega)
          rw [eqr]
          by_cases hq : 3 ≤ pop4 (a_inR τ node (τ.1 14 node) 4)
          ·
            refine mw_eqi (show _ = nI 1 from by rw [decide_eq_true hq]; rfl) ?_
            refine mw_if_eqN C 81 d_No_goOn_27 (by decide) (by omega) (fun h27 => ?_) (fun h27 => ?_)
            · exfalso; omega
            ·
              refine mw_to _ (by exact And.intro rfl (trivial)) (F (by omega) ?_)
              unfold a_full
              rw [decide_eq_true hq, Bool.or_true]
          ·
            refine mw_eqi (show _ = nI 0 from by rw [decide_eq_false hq]; rfl) ?_
            have hff : a_full τ node = false := by
              unfold a_full
              rw [decide_eq_false hq, decide_eq_false (by omega)]
              rfl
            refine mw_if_eqN C 81 d_No_goOn_27 (by decide) (by omega) (fun h27 => ?_) (fun h27 => ?_)
            ·
              refine mw_to _ (by exact And.intro rfl (trivial)) (E τ S1 h hI hg (Or.inr hff) ?_)
              rw [← he, a_goL, if_neg (fun hh => by rw [hff] at hh; cases hh.2)]
            · exfalso; omega
  exact mw_to _ (by exact And.intro rfl (trivial)) (L 12 σ S (by omega) h hI hg rfl)
