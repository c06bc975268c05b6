/-! the reference's calls: transfers, begin, run, deliver -/
def a_rz (σ : aS) (c : Nat) : aS := a_up σ 0 0 c
theorem aI_rz {fy B : Nat} {σ : aS} (h : aI fy B σ) (c : Nat) : aI fy B (a_rz σ c) := (aI_mk (h.pl) (h.st) (h.tr) (h.qu) (h.f6) (h.f7) (h.f9) (h.f10) (h.f15) (h.ac) (h.vo) (h.bl) (h.ow) (h.cm) (h.oc) (h.qd) (h.be) (h.fo) (h.vs) (h.mm) (h.wt))
def wActM (fy : Nat) (x : Int32) : Prop := ∃ k, k < 4 ∧ x = nI k ∧ ¬ k = fy
set_option maxHeartbeats 4000000 in
set_option maxRecDepth 100000 in
theorem m_Mo_isTransfer (l : Launch) (D : va_G) (cA : Nat → ClassId) (x1 x2 x3 : Int32) (S : mw_S) : mw_M false l lw_tbl y_Mo_isTransfer b_Mo_isTransfer 3 (some .boolean) { frames := 1, cells := 0, slots := 0, locals := 20 } D vCl cA sh0 0 [.inl x1, .inl x2, .inl x3] (S) (mw_Pi (fun r _ => (r = nI 1 ∧ (wIsN x2 ∧ wIsN x3 ∧ wIn 1 99 x1)) ∨ (r = nI 0 ∧ ¬ (wIsN x2 ∧ wIsN x3 ∧ wIn 1 99 x1)))) := by
  refine mw_M_of (by decide) (Nat.le_of_ble_eq_true rfl) ?_
  intro p e s m args below meth c A ad C hR
  refine mw_iload_n C 1 d_Mo_isTransfer_0 rfl rfl ?_
  refine mw_run0i C (ix0 _ _) (mw_invS C (m_Mo_isNode l D cA x2 _) (ix0 _ _) kb_Mo_88 ws_Mo_isNode d_Mo_isTransfer_1 rfl rfl (Nat.le_of_ble_eq_true rfl) rfl rfl ⟨by decide, by decide⟩ ⟨Nat.zero_le _, Nat.zero_le _⟩) (fun x1 e1 => ?_)
  rcases e1 with ⟨rfl, hk1⟩ | ⟨rfl, hk1⟩
  ·
    refine mw_if_eqN C 29 d_Mo_isTransfer_4 (by decide) (by omega) (fun h4 => ?_) (fun h4 => ?_)
    · exfalso; omega
    ·
      refine mw_iload_n C 2 d_Mo_isTransfer_7 rfl rfl ?_
      refine mw_run0i C (ix0 _ _) (mw_invS C (m_Mo_isNode l D cA x3 _) (ix0 _ _) kb_Mo_88 ws_Mo_isNode d_Mo_isTransfer_8 rfl rfl (Nat.le_of_ble_eq_true rfl) rfl rfl ⟨by decide, by decide⟩ ⟨Nat.zero_le _, Nat.zero_le _⟩) (fun x8 e8 => ?_)
      rcases e8 with ⟨rfl, hk2⟩ | ⟨rfl, hk2⟩
      ·
        refine mw_if_eqN C 29 d_Mo_isTransfer_11 (by decide) (by omega) (fun h11 => ?_) (fun h11 => ?_)
        · exfalso; omega
        ·
          refine mw_iload_n C 0 d_Mo_isTransfer_14 rfl rfl ?_
          refine mw_iconst C (v := nI 1) d_Mo_isTransfer_15 (by decide) ?_
          refine mw_icmp_lt C 29 d_Mo_isTransfer_16 (by decide) (fun h16 => ?_) (fun h16 => ?_)
          ·
            refine mw_iconst C (v := nI 0) d_Mo_isTransfer_29 (by decide) ?_
            refine mw_zret C hR d_Mo_isTransfer_30 (by decide) ?_
            exact Or.inr ⟨rfl, fun hh => by
              obtain ⟨a, h1, h2, rfl⟩ := hh.2.2
              exact nI_nlt (by omega) (by omega) h16⟩
          ·
            refine mw_iload_n C 0 d_Mo_isTransfer_19 rfl rfl ?_
            refine mw_bipush C (v := nI 99) d_Mo_isTransfer_20 (by decide) ?_
            refine mw_icmp_gt C 29 d_Mo_isTransfer_22 (by decide) (fun h22 => ?_) (fun h22 => ?_)
            ·
              refine mw_iconst C (v := nI 0) d_Mo_isTransfer_29 (by decide) ?_
              refine mw_zret C hR d_Mo_isTransfer_30 (by decide) ?_
              exact Or.inr ⟨rfl, fun hh => by
                obtain ⟨a, h1, h2, rfl⟩ := hh.2.2
                exact nI_nlt (by omega) (by decide) h22⟩
            ·
              refine mw_iconst C (v := nI 1) d_Mo_isTransfer_25 (by decide) ?_
              refine mw_goto C 30 d_Mo_isTransfer_26 (by decide) ?_
              refine mw_zret C hR d_Mo_isTransfer_30 (by decide) ?_
              exact Or.inl ⟨rfl, hk1, hk2, wIn_of (by decide) h16 (Int32.not_lt.mp h22)⟩
      ·
        refine mw_if_eqN C 29 d_Mo_isTransfer_11 (by decide) (by omega) (fun h11 => ?_) (fun h11 => ?_)
        ·
          refine mw_iconst C (v := nI 0) d_Mo_isTransfer_29 (by decide) ?_
          refine mw_zret C hR d_Mo_isTransfer_30 (by decide) ?_
          exact Or.inr ⟨rfl, fun hh => hk2 hh.2.1⟩
        · exfalso; omega
  ·
    refine mw_if_eqN C 29 d_Mo_isTransfer_4 (by decide) (by omega) (fun h4 => ?_) (fun h4 => ?_)
    ·
      refine mw_iconst C (v := nI 0) d_Mo_isTransfer_29 (by decide) ?_
      refine mw_zret C hR d_Mo_isTransfer_30 (by decide) ?_
      exact Or.inr ⟨rfl, fun hh => hk1 hh.1⟩
    · exfalso; omega
set_option maxHeartbeats 4000000 in
set_option maxRecDepth 100000 in
theorem m_Mo_transfer_1 (l : Launch) (D : va_G) (cA : Nat → ClassId) (cn fv : Int32) (σ : aS) (fy : Nat) (x1 x2 x3 x4 : Int32) (S : mw_S) (h : mR cn fv σ S) (hfy : fyR fv fy) (hno : ¬ (wActM fy x1 ∧ wIsN x2 ∧ wIsN x3 ∧ wIn 1 99 x4)) : mw_M true l lw_tbl y_Mo_transfer b_Mo_transfer 5 (some .int) { frames := 2, cells := 0, slots := 0, locals := 42 } D vCl cA sh_Mo 22 [.inr (.inr 0), .inl x1, .inl x2, .inl x3, .inl x4] (S) (mw_Pi (fun z S' => z = nI 0 ∧ mR cn fv (a_rz (a_rz σ 0) 1) S')) := by
  refine mw_M_of (by decide) (Nat.le_of_ble_eq_true rfl) ?_
  intro p e s m args below meth c A ad C hR
  have R : ∀ S1 : mw_S, mR cn fv (a_rz σ 0) S1 → mw p l e { frames := 2, cells := 0, slots := 0, locals := 42 } s m args below meth c (MQ below (mw_Qc true D vCl cA ad sh_Mo 22 s.heap.size (S) (mw_Pi (fun z S' => z = nI 0 ∧ mR cn fv (a_rz (a_rz σ 0) 1) S'))) args s 0 0 A) 0 0 D vCl cA A ad sh_Mo 22 5 (30) ([(0, .inr (.inr 0))]) ([]) (S1) := by
    intro S1 h
    refine mw_aload_n C 0 d_Mo_transfer_30 rfl rfl ?_
    refine mw_iconst C (v := nI 1) d_Mo_transfer_31 (by decide) ?_
    refine mo_runi C rfl (mw_invV C (kk := 0) (m_Mo_refuse l D cA cn fv (a_rz σ 0) 1 _ (mR_rs h)) ix_Mo kb_Mo_192 wm_Mo_refuse wv_Mo_refuse (by decide) rfl rfl d_Mo_transfer_32 rfl rfl (Nat.le_of_ble_eq_true rfl) rfl rfl ⟨by decide, by decide⟩ ⟨Nat.zero_le _, Nat.zero_le _⟩) (fun S h => ?_)
    refine mw_iret C hR d_Mo_transfer_35 ?_
    exact ⟨rfl, h⟩
  refine mw_aload_n C 0 d_Mo_transfer_0 rfl rfl ?_
  refine mw_iconst C (v := nI 0) d_Mo_transfer_1 (by decide) ?_
  refine mo_put C rfl h f_Mo_85 p_Mo_0 d_Mo_transfer_2 rfl rfl (fun S h => ?_)
  refine mw_iload_n C 1 d_Mo_transfer_5 rfl rfl ?_
  refine mw_run0i C (ix0 _ _) (mw_invS C (m_Mo_isNode l D cA x1 _) (ix0 _ _) kb_Mo_88 ws_Mo_isNode d_Mo_transfer_6 rfl rfl (Nat.le_of_ble_eq_true rfl) rfl rfl ⟨by decide, by decide⟩ ⟨Nat.zero_le _, Nat.zero_le _⟩) (fun x6 e6 => ?_)
  rcases e6 with ⟨rfl, hk1⟩ | ⟨rfl, hk1⟩
  ·
    obtain ⟨k1, hk, rfl⟩ := hk1
    refine mw_if_eqN C 30 d_Mo_transfer_9 (by decide) (by omega) (fun h9 => ?_) (fun h9 => ?_)
    · exfalso; omega
    ·
      refine mw_aload_n C 0 d_Mo_transfer_12 rfl rfl ?_
      refine mw_iload_n C 1 d_Mo_transfer_13 rfl rfl ?_
      refine mw_run0i C ix_Mo (mw_invV C (kk := 0) (m_Mo_isFaulty l D cA cn fv _ fy k1 _ (mR_rs h) hfy hk) ix_Mo kb_Mo_93 wm_Mo_isFaulty wv_Mo_isFaulty (by decide) rfl rfl d_Mo_transfer_14 rfl rfl (Nat.le_of_ble_eq_true rfl) rfl rfl ⟨by decide, by decide⟩ ⟨Nat.zero_le _, Nat.zero_le _⟩) (fun x14 e14 => ?_)
      subst e14
      by_cases he : k1 = fy
      ·
        rw [if_pos he]
        refine mw_if_neN C 30 d_Mo_transfer_17 (by decide) (by omega) (fun h17 => ?_) (fun h17 => ?_)
        · exact mw_to _ (by exact And.intro rfl (trivial)) (R S h)
        · exfalso; omega
      ·
        rw [if_neg he]
        refine mw_if_neN C 30 d_Mo_transfer_17 (by decide) (by omega) (fun h17 => ?_) (fun h17 => ?_)
        · exfalso; omega
        ·
          refine mw_iload C d_Mo_transfer_20 rfl ?_
          refine mw_iload_n C 2 d_Mo_transfer_22 rfl rfl ?_
          refine mw_iload_n C 3 d_Mo_transfer_23 rfl rfl ?_
          refine mw_run0i C (ix0 _ _) (mw_invS C (m_Mo_isTransfer l D cA x4 x2 x3 _) (ix0 _ _) kb_Mo_188 ws_Mo_isTransfer d_Mo_transfer_24 rfl rfl (Nat.le_of_ble_eq_true rfl) rfl rfl ⟨by decide, by decide⟩ ⟨Nat.zero_le _, Nat.zero_le _⟩) (fun x24 e24 => ?_)
          rcases e24 with ⟨rfl, ht⟩ | ⟨rfl, ht⟩
          · exact absurd ⟨⟨k1, hk, rfl, he⟩, ht⟩ hno
          ·
            refine mw_if_neN C 36 d_Mo_transfer_27 (by decide) (by omega) (fun h27 => ?_) (fun h27 => ?_)
            · exfalso; omega
            · exact mw_to _ (by exact And.intro rfl (trivial)) (R S h)
  ·
    refine mw_if_eqN C 30 d_Mo_transfer_9 (by decide) (by omega) (fun h9 => ?_) (fun h9 => ?_)
    · exact mw_to _ (by exact And.intro rfl (trivial)) (R S h)
    · exfalso; omega
set_option maxHeartbeats 4000000 in
set_option maxRecDepth 100000 in
theorem m_Mo_transfer_2 (l : Launch) (D : va_G) (cA : Nat → ClassId) (cn fv : Int32) (σ : aS) (fy k1 : Nat) (x2 x3 x4 : Int32) (S : mw_S) (h : mR cn fv σ S) (hfy : fyR fv fy) (hk : k1 < 4) (he : ¬ k1 = fy) (ht : wIsN x2 ∧ wIsN x3 ∧ wIn 1 99 x4) (hq : σ.1 20 k1 = 12) : mw_M true l lw_tbl y_Mo_transfer b_Mo_transfer 5 (some .int) { frames := 2, cells := 0, slots := 0, locals := 42 } D vCl cA sh_Mo 22 [.inr (.inr 0), .inl (nI k1), .inl x2, .inl x3, .inl x4] (S) (mw_Pi (fun z S' => z = nI 0 ∧ mR cn fv (a_rz (a_rz σ 0) 2) S')) := by
  refine mw_M_of (by decide) (Nat.le_of_ble_eq_true rfl) ?_
  intro p e s m args below meth c A ad C hR
  have hqd : (a_rz σ 0).1 20 k1 = 12 := hq
  refine mw_aload_n C 0 d_Mo_transfer_0 rfl rfl ?_
  refine mw_iconst C (v := nI 0) d_Mo_transfer_1 (by decide) ?_
  refine mo_put C rfl h f_Mo_85 p_Mo_0 d_Mo_transfer_2 rfl rfl (fun S h => ?_)
  refine mw_iload_n C 1 d_Mo_transfer_5 rfl rfl ?_
  refine mw_run0i C (ix0 _ _) (mw_invS C (m_Mo_isNode l D cA (nI k1) _) (ix0 _ _) kb_Mo_88 ws_Mo_isNode d_Mo_transfer_6 rfl rfl (Nat.le_of_ble_eq_true rfl) rfl rfl ⟨by decide, by decide⟩ ⟨Nat.zero_le _, Nat.zero_le _⟩) (fun x6 e6 => ?_)
  rcases e6 with ⟨rfl, hk1⟩ | ⟨rfl, hk1⟩
  ·
    refine mw_if_eqN C 30 d_Mo_transfer_9 (by decide) (by omega) (fun h9 => ?_) (fun h9 => ?_)
    · exfalso; omega
    ·
      refine mw_aload_n C 0 d_Mo_transfer_12 rfl rfl ?_
      refine mw_iload_n C 1 d_Mo_transfer_13 rfl rfl ?_
      refine mw_run0i C ix_Mo (mw_invV C (kk := 0) (m_Mo_isFaulty l D cA cn fv _ fy k1 _ (mR_rs h) hfy hk) ix_Mo kb_Mo_93 wm_Mo_isFaulty wv_Mo_isFaulty (by decide) rfl rfl d_Mo_transfer_14 rfl rfl (Nat.le_of_ble_eq_true rfl) rfl rfl ⟨by decide, by decide⟩ ⟨Nat.zero_le _, Nat.zero_le _⟩) (fun x14 e14 => ?_)
      subst e14
      rw [if_neg he]
      refine mw_if_neN C 30 d_Mo_transfer_17 (by decide) (by omega) (fun h17 => ?_) (fun h17 => ?_)
      · exfalso; omega
      ·
        refine mw_iload C d_Mo_transfer_20 rfl ?_
        refine mw_iload_n C 2 d_Mo_transfer_22 rfl rfl ?_
        refine mw_iload_n C 3 d_Mo_transfer_23 rfl rfl ?_
        refine mw_run0i C (ix0 _ _) (mw_invS C (m_Mo_isTransfer l D cA x4 x2 x3 _) (ix0 _ _) kb_Mo_188 ws_Mo_isTransfer d_Mo_transfer_24 rfl rfl (Nat.le_of_ble_eq_true rfl) rfl rfl ⟨by decide, by decide⟩ ⟨Nat.zero_le _, Nat.zero_le _⟩) (fun x24 e24 => ?_)
        rcases e24 with ⟨rfl, ht'⟩ | ⟨rfl, ht'⟩
        ·
          refine mw_if_neN C 36 d_Mo_transfer_27 (by decide) (by omega) (fun h27 => ?_) (fun h27 => ?_)
          ·
            refine mw_aload_n C 0 d_Mo_transfer_36 rfl rfl ?_
            refine mw_getr C f_Mo_69 d_Mo_transfer_37 (by decide) rfl rfl ?_
            refine mw_iload_n C 1 d_Mo_transfer_40 rfl rfl ?_
            refine mo_ald C h d_Mo_transfer_41 (by decide) rfl rfl (by omega) (by decide) ?_
            refine mw_eqi (show _ = nI 12 from by rw [show (a_up σ 0 0 0).1 20 k1 = 12 from hq]) ?_
            refine mw_bipush C (v := nI 12) d_Mo_transfer_42 (by decide) ?_
            refine mw_icmp_neN C 53 d_Mo_transfer_44 (by decide) (by omega) (by omega) (fun h44 => ?_) (fun h44 => ?_)
            · exact absurd rfl h44
            ·
              refine mw_aload_n C 0 d_Mo_transfer_47 rfl rfl ?_
              refine mw_iconst C (v := nI 2) d_Mo_transfer_48 (by decide) ?_
              refine mo_runi C rfl (mw_invV C (kk := 0) (m_Mo_refuse l D cA cn fv (a_rz σ 0) 2 _ (mR_rs h)) ix_Mo kb_Mo_192 wm_Mo_refuse wv_Mo_refuse (by decide) rfl rfl d_Mo_transfer_49 rfl rfl (Nat.le_of_ble_eq_true rfl) rfl rfl ⟨by decide, by decide⟩ ⟨Nat.zero_le _, Nat.zero_le _⟩) (fun S h => ?_)
              refine mw_iret C hR d_Mo_transfer_52 ?_
              exact ⟨rfl, h⟩
          · exfalso; omega
        · exact absurd ht ht'
  · exact absurd ⟨k1, hk, rfl⟩ hk1
def a_queue (σ : aS) (node t : Nat) : aS := a_up (a_up σ 19 (12 * node + σ.1 20 node) t) 20 node (σ.1 20 node + 1)
set_option maxHeartbeats 4000000 in
set_option maxRecDepth 100000 in
theorem m_Mo_transfer_0 (l : Launch) (D : va_G) (cA : Nat → ClassId) (cn fv : Int32) (σ : aS) (fy k1 k2 k3 k4 : Nat) (S : mw_S) (h : mR cn fv σ S) (hfy : fyR fv fy) (hk : k1 < 4) (he : ¬ k1 = fy) (hk2 : k2 < 4) (hk3 : k3 < 4) (hk4 : 1 ≤ k4) (hk5 : k4 ≤ 99) (hq : σ.1 20 k1 < 12) : mw_M true l lw_tbl y_Mo_transfer b_Mo_transfer 5 (some .int) { frames := 2, cells := 0, slots := 0, locals := 42 } D vCl cA sh_Mo 22 [.inr (.inr 0), .inl (nI k1), .inl (nI k2), .inl (nI k3), .inl (nI k4)] (S) (mw_Pi (fun z S' => z = nI (σ.1 20 k1 + 1) ∧ mR cn fv (a_queue (a_rz σ 0) k1 (1000 * k4 + 10 * k2 + k3)) S')) := by
  refine mw_M_of (by decide) (Nat.le_of_ble_eq_true rfl) ?_
  intro p e s m args below meth c A ad C hR
  refine mw_aload_n C 0 d_Mo_transfer_0 rfl rfl ?_
  refine mw_iconst C (v := nI 0) d_Mo_transfer_1 (by decide) ?_
  refine mo_put C rfl h f_Mo_85 p_Mo_0 d_Mo_transfer_2 rfl rfl (fun S h => ?_)
  refine mw_iload_n C 1 d_Mo_transfer_5 rfl rfl ?_
  refine mw_run0i C (ix0 _ _) (mw_invS C (m_Mo_isNode l D cA (nI k1) _) (ix0 _ _) kb_Mo_88 ws_Mo_isNode d_Mo_transfer_6 rfl rfl (Nat.le_of_ble_eq_true rfl) rfl rfl ⟨by decide, by decide⟩ ⟨Nat.zero_le _, Nat.zero_le _⟩) (fun x6 e6 => ?_)
  rcases e6 with ⟨rfl, hk1⟩ | ⟨rfl, hk1⟩
  ·
    refine mw_if_eqN C 30 d_Mo_transfer_9 (by decide) (by omega) (fun h9 => ?_) (fun h9 => ?_)
    · exfalso; omega
    ·
      refine mw_aload_n C 0 d_Mo_transfer_12 rfl rfl ?_
      refine mw_iload_n C 1 d_Mo_transfer_13 rfl rfl ?_
      refine mw_run0i C ix_Mo (mw_invV C (kk := 0) (m_Mo_isFaulty l D cA cn fv _ fy k1 _ (mR_rs h) hfy hk) ix_Mo kb_Mo_93 wm_Mo_isFaulty wv_Mo_isFaulty (by decide) rfl rfl d_Mo_transfer_14 rfl rfl (Nat.le_of_ble_eq_true rfl) rfl rfl ⟨by decide, by decide⟩ ⟨Nat.zero_le _, Nat.zero_le _⟩) (fun x14 e14 => ?_)
      subst e14
      rw [if_neg he]
      refine mw_if_neN C 30 d_Mo_transfer_17 (by decide) (by omega) (fun h17 => ?_) (fun h17 => ?_)
      · exfalso; omega
      ·
        refine mw_iload C d_Mo_transfer_20 rfl ?_
        refine mw_iload_n C 2 d_Mo_transfer_22 rfl rfl ?_
        refine mw_iload_n C 3 d_Mo_transfer_23 rfl rfl ?_
        refine mw_run0i C (ix0 _ _) (mw_invS C (m_Mo_isTransfer l D cA (nI k4) (nI k2) (nI k3) _) (ix0 _ _) kb_Mo_188 ws_Mo_isTransfer d_Mo_transfer_24 rfl rfl (Nat.le_of_ble_eq_true rfl) rfl rfl ⟨by decide, by decide⟩ ⟨Nat.zero_le _, Nat.zero_le _⟩) (fun x24 e24 => ?_)
        rcases e24 with ⟨rfl, ht'⟩ | ⟨rfl, ht'⟩
        ·
          refine mw_if_neN C 36 d_Mo_transfer_27 (by decide) (by omega) (fun h27 => ?_) (fun h27 => ?_)
          ·
            refine mw_aload_n C 0 d_Mo_transfer_36 rfl rfl ?_
            refine mw_getr C f_Mo_69 d_Mo_transfer_37 (by decide) rfl rfl ?_
            refine mw_iload_n C 1 d_Mo_transfer_40 rfl rfl ?_
            refine mo_ald C h d_Mo_transfer_41 (by decide) rfl rfl (by omega) (by decide) ?_
            refine mw_eqi (show _ = nI (σ.1 20 k1) from rfl) ?_
            refine mw_bipush C (v := nI 12) d_Mo_transfer_42 (by decide) ?_
            refine mw_icmp_neN C 53 d_Mo_transfer_44 (by decide) (by omega) (by omega) (fun h44 => ?_) (fun h44 => ?_)
            ·
              refine mw_aload_n C 0 d_Mo_transfer_53 rfl rfl ?_
              refine mw_getr C f_Mo_66 d_Mo_transfer_54 (by decide) rfl rfl ?_
              refine mw_bipush C (v := nI 12) d_Mo_transfer_57 (by decide) ?_
              refine mw_iload_n C 1 d_Mo_transfer_59 rfl rfl ?_
              refine mw_imulN C d_Mo_transfer_60 ?_
              refine mw_aload_n C 0 d_Mo_transfer_61 rfl rfl ?_
              refine mw_getr C f_Mo_69 d_Mo_transfer_62 (by decide) rfl rfl ?_
              refine mw_iload_n C 1 d_Mo_transfer_65 rfl rfl ?_
              refine mo_ald C h d_Mo_transfer_66 (by decide) rfl rfl (by omega) (by decide) ?_
              refine mw_eqi (show _ = nI (σ.1 20 k1) from rfl) ?_
              refine mw_iaddN C d_Mo_transfer_67 ?_
              refine mw_sipush C (v := nI 1000) d_Mo_transfer_68 (by decide) ?_
              refine mw_iload C d_Mo_transfer_71 rfl ?_
              refine mw_imulN C d_Mo_transfer_73 ?_
              refine mw_bipush C (v := nI 10) d_Mo_transfer_74 (by decide) ?_
              refine mw_iload_n C 2 d_Mo_transfer_76 rfl rfl ?_
              refine mw_imulN C d_Mo_transfer_77 ?_
              refine mw_iaddN C d_Mo_transfer_78 ?_
              refine mw_iload_n C 3 d_Mo_transfer_79 rfl rfl ?_
              refine mw_iaddN C d_Mo_transfer_80 ?_
              refine mo_ast C rfl h d_Mo_transfer_81 (by decide) rfl rfl (by omega) (by decide) (fun S h => ?_)
              refine mw_aload_n C 0 d_Mo_transfer_82 rfl rfl ?_
              refine mw_getr C f_Mo_69 d_Mo_transfer_83 (by decide) rfl rfl ?_
              refine mw_iload_n C 1 d_Mo_transfer_86 rfl rfl ?_
              refine mw_dup2_11 C d_Mo_transfer_87 rfl rfl ?_
              refine mo_ald C h d_Mo_transfer_88 (by decide) rfl rfl (by omega) (by decide) ?_
              refine mw_eqi (show _ = nI (σ.1 20 k1) from rfl) ?_
              refine mw_iconst C (v := nI 1) d_Mo_transfer_89 (by decide) ?_
              refine mw_iaddN C d_Mo_transfer_90 ?_
              refine mo_ast C rfl h d_Mo_transfer_91 (by decide) rfl rfl (by omega) (by decide) (fun S h => ?_)
              refine mw_aload_n C 0 d_Mo_transfer_92 rfl rfl ?_
              refine mw_getr C f_Mo_69 d_Mo_transfer_93 (by decide) rfl rfl ?_
              refine mw_iload_n C 1 d_Mo_transfer_96 rfl rfl ?_
              refine mo_ald C h d_Mo_transfer_97 (by decide) rfl rfl (by omega) (by decide) ?_
              refine mw_eqi (show _ = nI (σ.1 20 k1 + 1) from by rw [a_up_s]) ?_
              refine mw_iret C hR d_Mo_transfer_98 ?_
              exact ⟨rfl, h⟩
            · exfalso; omega
          · exfalso; omega
        · exact absurd ⟨⟨k2, hk2, rfl⟩, ⟨k3, hk3, rfl⟩, ⟨k4, hk4, hk5, rfl⟩⟩ ht'
  · exact absurd ⟨k1, hk, rfl⟩ hk1
theorem aI_queue {fy B : Nat} {σ : aS} (h : aI fy B σ) {node t : Nat} (ht : a_tok t) (hq : σ.1 20 node < 12) : aI fy B (a_queue σ node t) := (aI_mk (h.pl) (h.st) (h.tr) (fun j => by
    show a_tok (if 19 = 19 ∧ j = 12 * node + σ.1 20 node then t else σ.1 19 j)
    split
    · exact ht
    · exact h.qu j) (h.f6) (h.f7) (h.f9) (h.f10) (h.f15) (h.ac) (h.vo) (h.bl) (h.ow) (h.cm) (h.oc) (fun n => by
    show (if 20 = 20 ∧ n = node then σ.1 20 node + 1 else σ.1 20 n) ≤ 12
    split
    · omega
    · exact h.qd n) (h.be) (h.fo) (h.vs) (h.mm) (h.wt))
def a_begL (cn : Int32) (fy : Nat) : Nat → aS → aS
  | 0, σ => σ
  | n + 1, σ => if n = fy then a_begL cn fy n σ else a_goOn cn fy (a_begL cn fy n σ) n
theorem aI_4 {fy B : Nat} {σ : aS} (h : aI fy B σ) : aI fy B (a_up σ 0 4 1) := (aI_mk (h.pl) (h.st) (h.tr) (h.qu) (h.f6) (h.f7) (h.f9) (h.f10) (h.f15) (h.ac) (h.vo) (h.bl) (h.ow) (h.cm) (h.oc) (h.qd) (Nat.le_refl _) (h.fo) (h.vs) (h.mm) (h.wt))
theorem aI_begL {fy B : Nat} {σ : aS} (h : aI fy B σ) (cn : Int32) : ∀ n, n ≤ 4 → aI fy B (a_begL cn fy n σ)
  | 0, _ => h
  | n + 1, hn => by
    rw [a_begL]
    split
    · exact aI_begL h cn n (by omega)
    · exact aI_goOn (aI_begL h cn n (by omega)) cn (by omega)
set_option maxHeartbeats 4000000 in
set_option maxRecDepth 100000 in
theorem m_Mo_begin_1 (l : Launch) (D : va_G) (cA : Nat → ClassId) (cn fv : Int32) (σ : aS) (S : mw_S) (h : mR cn fv σ S) (hb : σ.1 0 4 = 1) : mw_M true l lw_tbl y_Mo_begin b_Mo_begin 2 (some .boolean) { frames := 6, cells := 0, slots := 0, locals := 141 } D vCl cA sh_Mo 22 [.inr (.inr 0)] (S) (mw_Pi (fun z S' => z = nI 0 ∧ mR cn fv (a_rz σ 0) S')) := by
  refine mw_M_of (by decide) (Nat.le_of_ble_eq_true rfl) ?_
  intro p e s m args below meth c A ad C hR
  refine mw_aload_n C 0 d_Mo_begin_0 rfl rfl ?_
  refine mw_iconst C (v := nI 0) d_Mo_begin_1 (by decide) ?_
  refine mo_put C rfl h f_Mo_85 p_Mo_0 d_Mo_begin_2 rfl rfl (fun S h => ?_)
  refine mw_aload_n C 0 d_Mo_begin_5 rfl rfl ?_
  refine mo_get C h f_Mo_112 d_Mo_begin_6 rfl rfl ?_
  refine mw_eqi (show _ = nI 1 from by rw [show (a_up σ 0 0 0).1 0 4 = 1 from hb]) ?_
  refine mw_if_eqN C 14 d_Mo_begin_9 (by decide) (by omega) (fun h9 => ?_) (fun h9 => ?_)
  · exfalso; omega
  ·
    refine mw_iconst C (v := nI 0) d_Mo_begin_12 (by decide) ?_
    refine mw_zret C hR d_Mo_begin_13 (by decide) ?_
    exact ⟨rfl, h⟩
set_option maxHeartbeats 4000000 in
set_option maxRecDepth 100000 in
theorem m_Mo_begin_0 (l : Launch) (D : va_G) (cA : Nat → ClassId) (cn fv : Int32) (σ : aS) (fy B : Nat) (S : mw_S) (h : mR cn fv σ S) (hfy : fyR fv fy) (hI : aI fy B σ) (hB : B + 4 ≤ 2400) (hb : σ.1 0 4 = 0) : mw_M true l lw_tbl y_Mo_begin b_Mo_begin 2 (some .boolean) { frames := 6, cells := 0, slots := 0, locals := 141 } D vCl cA sh_Mo 22 [.inr (.inr 0)] (S) (mw_Pi (fun z S' => z = nI 1 ∧ mR cn fv (a_begL cn fy 4 (a_up (a_rz σ 0) 0 4 1)) S')) := by
  refine mw_M_of (by decide) (Nat.le_of_ble_eq_true rfl) ?_
  intro p e s m args below meth c A ad C hR
  have hI1 := aI_4 (aI_rz hI 0)
  have L : ∀ (dd i : Nat) (S1 : mw_S), i + dd = 4 → mR cn fv (a_begL cn fy i (a_up (a_rz σ 0) 0 4 1)) S1 → mw p l e { frames := 6, cells := 0, slots := 0, locals := 141 } s m args below meth c (MQ below (mw_Qc true D vCl cA ad sh_Mo 22 s.heap.size (S) (mw_Pi (fun z S' => z = nI 1 ∧ mR cn fv (a_begL cn fy 4 (a_up (a_rz σ 0) 0 4 1)) S'))) args s 0 0 A) 0 0 D vCl cA A ad sh_Mo 22 2 (21) ([(1, .inl (nI i)), (0, .inr (.inr 0))]) ([]) (S1) := by
    intro dd
    induction dd with
    | zero =>
      intro i S1 hi h
      obtain rfl : i = 4 := by omega
      refine mw_iload_n C 1 d_Mo_begin_21 rfl rfl ?_
      refine mw_iconst C (v := nI 4) d_Mo_begin_22 (by decide) ?_
      refine mw_icmp_geN C 45 d_Mo_begin_23 (by decide) (by omega) (by omega) (fun h23 => ?_) (fun h23 => ?_)
      ·
        refine mw_iconst C (v := nI 1) d_Mo_begin_45 (by decide) ?_
        refine mw_zret C hR d_Mo_begin_46 (by decide) ?_
        exact ⟨rfl, h⟩
      · exfalso; omega
    | succ dd ih =>
      intro i S1 hi h
      refine mw_iload_n C 1 d_Mo_begin_21 rfl rfl ?_
      refine mw_iconst C (v := nI 4) d_Mo_begin_22 (by decide) ?_
      refine mw_icmp_geN C 45 d_Mo_begin_23 (by decide) (by omega) (by omega) (fun h23 => ?_) (fun h23 => ?_)
      · exfalso; omega
      ·
        refine mw_aload_n C 0 d_Mo_begin_26 rfl rfl ?_
        refine mw_iload_n C 1 d_Mo_begin_27 rfl rfl ?_
        refine mw_run0i C ix_Mo (mw_invV C (kk := 0) (m_Mo_isFaulty l D cA cn fv _ fy i _ (mR_rs h) hfy (by omega)) ix_Mo kb_Mo_93 wm_Mo_isFaulty wv_Mo_isFaulty (by decide) rfl rfl d_Mo_begin_28 rfl rfl (Nat.le_of_ble_eq_true rfl) rfl rfl ⟨by decide, by decide⟩ ⟨Nat.zero_le _, Nat.zero_le _⟩) (fun x28 e28 => ?_)
        subst e28
        by_cases he : i = fy
        ·
          rw [if_pos he]
          refine mw_if_neN C 39 d_Mo_begin_31 (by decide) (by omega) (fun h31 => ?_) (fun h31 => ?_)
          ·
            refine mw_iincN C d_Mo_begin_39 rfl (by decide) ?_
            refine mw_goto C 21 d_Mo_begin_42 (by decide) ?_
            refine mw_to _ (by exact And.intro rfl (And.intro rfl (trivial))) (ih (i + 1) _ (by omega) ?_)
            rw [a_begL, if_pos he]
            exact h
          · exfalso; omega
        ·
          rw [if_neg he]
          refine mw_if_neN C 39 d_Mo_begin_31 (by decide) (by omega) (fun h31 => ?_) (fun h31 => ?_)
          · exfalso; omega
          ·
            refine mw_aload_n C 0 d_Mo_begin_34 rfl rfl ?_
            refine mw_iload_n C 1 d_Mo_begin_35 rfl rfl ?_
            refine mo_runv C rfl (mw_invV C (kk := 0) (m_Mo_goesOn l D cA cn fv _ fy B i _ (mR_rs h) hfy (aI_begL hI1 cn i (by omega)) (by omega) (by omega)) ix_Mo kb_Mo_116 wm_Mo_goesOn wv_Mo_goesOn (by decide) rfl rfl d_Mo_begin_36 rfl rfl (Nat.le_of_ble_eq_true rfl) rfl rfl ⟨by decide, by decide⟩ ⟨Nat.zero_le _, Nat.zero_le _⟩) (fun S h => ?_)
            refine mw_iincN C d_Mo_begin_39 rfl (by decide) ?_
            refine mw_goto C 21 d_Mo_begin_42 (by decide) ?_
            refine mw_to _ (by exact And.intro rfl (And.intro rfl (trivial))) (ih (i + 1) _ (by omega) ?_)
            rw [a_begL, if_neg he]
            exact h
  refine mw_aload_n C 0 d_Mo_begin_0 rfl rfl ?_
  refine mw_iconst C (v := nI 0) d_Mo_begin_1 (by decide) ?_
  refine mo_put C rfl h f_Mo_85 p_Mo_0 d_Mo_begin_2 rfl rfl (fun S h => ?_)
  refine mw_aload_n C 0 d_Mo_begin_5 rfl rfl ?_
  refine mo_get C h f_Mo_112 d_Mo_begin_6 rfl rfl ?_
  refine mw_eqi (show _ = nI 0 from by rw [show (a_up σ 0 0 0).1 0 4 = 0 from hb]) ?_
  refine mw_if_eqN C 14 d_Mo_begin_9 (by decide) (by omega) (fun h9 => ?_) (fun h9 => ?_)
  ·
    refine mw_aload_n C 0 d_Mo_begin_14 rfl rfl ?_
    refine mw_iconst C (v := nI 1) d_Mo_begin_15 (by decide) ?_
    refine mo_putB C rfl h f_Mo_112 p_Mo_4 d_Mo_begin_16 (by decide) (by decide) (fun S h => ?_)
    refine mw_iconst C (v := nI 0) d_Mo_begin_19 (by decide) ?_
    refine mw_istore_n C 1 d_Mo_begin_20 rfl (by decide) ?_
    exact mw_to _ (by exact And.intro rfl (And.intro rfl (trivial))) (L 4 0 S rfl h)
  · exfalso; omega
def a_runL (cn : Int32) (fy : Nat) : Nat → aS → aS
  | 0, σ => σ
  | n + 1, σ => if σ.1 0 12 = 0 then σ else a_runL cn fy n (a_comes cn fy (a_dr σ (a_next σ.2.2)) (a_pick (a_next σ.2.2) (σ.1 0 12)))
theorem aI_dr {fy B : Nat} {σ : aS} (h : aI fy B σ) (x : Int32) : aI fy B (a_dr σ x) := (aI_mk (h.pl) (h.st) (h.tr) (h.qu) (h.f6) (h.f7) (h.f9) (h.f10) (h.f15) (h.ac) (h.vo) (h.bl) (h.ow) (h.cm) (h.oc) (h.qd) (h.be) (h.fo) (h.vs) (h.mm) (h.wt))
theorem aI_runL {fy B : Nat} (cn : Int32) : ∀ (n : Nat) {σ : aS}, aI fy B σ → aI fy B (a_runL cn fy n σ)
  | 0, _, h => h
  | n + 1, σ, h => by
    rw [a_runL]
    split
    · exact h
    · exact aI_runL cn n (aI_comes (aI_dr h _) cn (Nat.mod_lt _ (by omega)))
set_option maxHeartbeats 4000000 in
set_option maxRecDepth 100000 in
theorem m_Mo_run_1 (l : Launch) (D : va_G) (cA : Nat → ClassId) (cn fv : Int32) (σ : aS) (x1 : Int32) (S : mw_S) (h : mR cn fv σ S) (hno : ¬ wIn 0 100 x1) : mw_M true l lw_tbl y_Mo_run b_Mo_run 4 (some .int) { frames := 7, cells := 0, slots := 0, locals := 168 } D vCl cA sh_Mo 22 [.inr (.inr 0), .inl x1] (S) (mw_Pi (fun z S' => z = nI 0 ∧ mR cn fv (a_rz (a_rz σ 0) 1) S')) := by
  refine mw_M_of (by decide) (Nat.le_of_ble_eq_true rfl) ?_
  intro p e s m args below meth c A ad C hR
  refine mw_aload_n C 0 d_Mo_run_0 rfl rfl ?_
  refine mw_iconst C (v := nI 0) d_Mo_run_1 (by decide) ?_
  refine mo_put C rfl h f_Mo_85 p_Mo_0 d_Mo_run_2 rfl rfl (fun S h => ?_)
  refine mw_iload_n C 1 d_Mo_run_5 rfl rfl ?_
  refine mw_if_lt C 15 d_Mo_run_6 (by decide) (fun h6 => ?_) (fun h6 => ?_)
  ·
    refine mw_aload_n C 0 d_Mo_run_15 rfl rfl ?_
    refine mw_iconst C (v := nI 1) d_Mo_run_16 (by decide) ?_
    refine mo_runi C rfl (mw_invV C (kk := 0) (m_Mo_refuse l D cA cn fv (a_rz σ 0) 1 _ (mR_rs h)) ix_Mo kb_Mo_192 wm_Mo_refuse wv_Mo_refuse (by decide) rfl rfl d_Mo_run_17 rfl rfl (Nat.le_of_ble_eq_true rfl) rfl rfl ⟨by decide, by decide⟩ ⟨Nat.zero_le _, Nat.zero_le _⟩) (fun S h => ?_)
    refine mw_iret C hR d_Mo_run_20 ?_
    exact ⟨rfl, h⟩
  ·
    refine mw_iload_n C 1 d_Mo_run_9 rfl rfl ?_
    refine mw_bipush C (v := nI 100) d_Mo_run_10 (by decide) ?_
    refine mw_icmp_le C 21 d_Mo_run_12 (by decide) (fun h12 => ?_) (fun h12 => ?_)
    · exact absurd (wIn0_of (by decide) h6 h12) hno
    ·
      refine mw_aload_n C 0 d_Mo_run_15 rfl rfl ?_
      refine mw_iconst C (v := nI 1) d_Mo_run_16 (by decide) ?_
      refine mo_runi C rfl (mw_invV C (kk := 0) (m_Mo_refuse l D cA cn fv (a_rz σ 0) 1 _ (mR_rs h)) ix_Mo kb_Mo_192 wm_Mo_refuse wv_Mo_refuse (by decide) rfl rfl d_Mo_run_17 rfl rfl (Nat.le_of_ble_eq_true rfl) rfl rfl ⟨by decide, by decide⟩ ⟨Nat.zero_le _, Nat.zero_le _⟩) (fun S h => ?_)
      refine mw_iret C hR d_Mo_run_20 ?_
      exact ⟨rfl, h⟩
set_option maxHeartbeats 4000000 in
set_option maxRecDepth 100000 in
theorem m_Mo_run_0 (l : Launch) (D : va_G) (cA : Nat → ClassId) (cn fv : Int32) (σ : aS) (fy B n : Nat) (S : mw_S) (h : mR cn fv σ S) (hfy : fyR fv fy) (hI : aI fy B σ) (hB : B + 4 ≤ 2400) (hn : n ≤ 100) : mw_M true l lw_tbl y_Mo_run b_Mo_run 4 (some .int) { frames := 7, cells := 0, slots := 0, locals := 168 } D vCl cA sh_Mo 22 [.inr (.inr 0), .inl (nI n)] (S) (mw_Pi (fun z S' => z = nI ((a_runL cn fy n (a_rz σ 0)).1 0 12) ∧ mR cn fv (a_runL cn fy n (a_rz σ 0)) S')) := by
  refine mw_M_of (by decide) (Nat.le_of_ble_eq_true rfl) ?_
  intro p e s m args below meth c A ad C hR
  have L : ∀ (dd i : Nat) (τ : aS) (S1 : mw_S), i + dd = n → mR cn fv τ S1 → aI fy B τ → a_runL cn fy dd τ = a_runL cn fy n (a_rz σ 0) → mw p l e { frames := 7, cells := 0, slots := 0, locals := 168 } s m args below meth c (MQ below (mw_Qc true D vCl cA ad sh_Mo 22 s.heap.size (S) (mw_Pi (fun z S' => z = nI ((a_runL cn fy n (a_rz σ 0)).1 0 12) ∧ mR cn fv (a_runL cn fy n (a_rz σ 0)) S'))) args s 0 0 A) 0 0 D vCl cA A ad sh_Mo 22 4 (23) ([(2, .inl (nI i)), (0, .inr (.inr 0)), (1, .inl (nI n))]) ([]) (S1) := by
    intro dd
    induction dd with
    | zero =>
      intro i τ S1 hi h hI he
      refine mw_iload_n C 2 d_Mo_run_23 rfl rfl ?_
      refine mw_iload_n C 1 d_Mo_run_24 rfl rfl ?_
      refine mw_icmp_geN C 55 d_Mo_run_25 (by decide) (by omega) (by omega) (fun h25 => ?_) (fun h25 => ?_)
      ·
        refine mw_aload_n C 0 d_Mo_run_55 rfl rfl ?_
        refine mo_get C h f_Mo_96 d_Mo_run_56 rfl rfl ?_
        refine mw_iret C hR d_Mo_run_59 ?_
        rw [← he]
        exact ⟨rfl, h⟩
      · exfalso; omega
    | succ dd ih =>
      intro i τ S1 hi h hI he
      have hm := hI.m
      refine mw_iload_n C 2 d_Mo_run_23 rfl rfl ?_
      refine mw_iload_n C 1 d_Mo_run_24 rfl rfl ?_
      refine mw_icmp_geN C 55 d_Mo_run_25 (by decide) (by omega) (by omega) (fun h25 => ?_) (fun h25 => ?_)
      · exfalso; omega
      ·
        refine mw_aload_n C 0 d_Mo_run_28 rfl rfl ?_
        refine mo_get C h f_Mo_96 d_Mo_run_29 rfl rfl ?_
        refine mw_if_leN C 55 d_Mo_run_32 (by decide) (by omega) (fun h32 => ?_) (fun h32 => ?_)
        ·
          refine mw_aload_n C 0 d_Mo_run_55 rfl rfl ?_
          refine mo_get C h f_Mo_96 d_Mo_run_56 rfl rfl ?_
          refine mw_iret C hR d_Mo_run_59 ?_
          rw [← he, a_runL, if_pos (by omega)]
          exact ⟨rfl, h⟩
        ·
          have hlt : a_pick (a_next τ.2.2) (τ.1 0 12) < τ.1 0 12 := Nat.mod_lt _ (by omega)
          refine mw_aload_n C 0 d_Mo_run_35 rfl rfl ?_
          refine mw_aload_n C 0 d_Mo_run_36 rfl rfl ?_
          refine mo_get C h f_Mo_96 d_Mo_run_37 rfl rfl ?_
          refine mo_runi C rfl (mw_invV C (kk := 0) (m_Mo_draw l D cA cn fv τ (τ.1 0 12) _ (mR_rs h) (by omega) (by omega)) ix_Mo kb_Mo_195 wm_Mo_draw wv_Mo_draw (by decide) rfl rfl d_Mo_run_40 rfl rfl (Nat.le_of_ble_eq_true rfl) rfl rfl ⟨by decide, by decide⟩ ⟨Nat.zero_le _, Nat.zero_le _⟩) (fun S h => ?_)
          refine mw_istore_n C 3 d_Mo_run_43 rfl (by decide) ?_
          refine mw_aload_n C 0 d_Mo_run_44 rfl rfl ?_
          refine mw_iload_n C 3 d_Mo_run_45 rfl rfl ?_
          refine mo_runv C rfl (mw_invV C (kk := 0) (m_Mo_comes l D cA cn fv _ fy B (a_pick (a_next τ.2.2) (τ.1 0 12)) _ (mR_rs h) hfy (aI_dr hI _) hlt hB) ix_Mo kb_Mo_198 wm_Mo_comes wv_Mo_comes (by decide) rfl rfl d_Mo_run_46 rfl rfl (Nat.le_of_ble_eq_true rfl) rfl rfl ⟨by decide, by decide⟩ ⟨Nat.zero_le _, Nat.zero_le _⟩) (fun S h => ?_)
          refine mw_iincN C d_Mo_run_49 rfl (by decide) ?_
          refine mw_goto C 23 d_Mo_run_52 (by decide) ?_
          refine mw_to _ (by exact And.intro rfl (And.intro rfl (And.intro rfl (trivial)))) (ih (i + 1) _ S (by omega) h (aI_comes (aI_dr hI _) cn hlt) ?_)
          rw [← he, a_runL, if_neg (by omega)]
  refine mw_aload_n C 0 d_Mo_run_0 rfl rfl ?_
  refine mw_iconst C (v := nI 0) d_Mo_run_1 (by decide) ?_
  refine mo_put C rfl h f_Mo_85 p_Mo_0 d_Mo_run_2 rfl rfl (fun S h => ?_)
  refine mw_iload_n C 1 d_Mo_run_5 rfl rfl ?_
  refine mw_if_ltN C 15 d_Mo_run_6 (by decide) (by omega) ?_
  refine mw_iload_n C 1 d_Mo_run_9 rfl rfl ?_
  refine mw_bipush C (v := nI 100) d_Mo_run_10 (by decide) ?_
  refine mw_icmp_leN C 21 d_Mo_run_12 (by decide) (by omega) (by omega) (fun h12 => ?_) (fun h12 => ?_)
  ·
    refine mw_iconst C (v := nI 0) d_Mo_run_21 (by decide) ?_
    refine mw_istore_n C 2 d_Mo_run_22 rfl (by decide) ?_
    exact mw_to _ (by exact And.intro rfl (And.intro rfl (And.intro rfl (trivial)))) (L n 0 _ S (Nat.zero_add _) h (aI_rz hI 0) rfl)
  · exfalso; omega
set_option maxHeartbeats 4000000 in
set_option maxRecDepth 100000 in
theorem m_Mo_deliver_1 (l : Launch) (D : va_G) (cA : Nat → ClassId) (cn fv : Int32) (σ : aS) (x1 : Int32) (S : mw_S) (h : mR cn fv σ S) (hm : σ.1 0 12 ≤ 2400) (hno : ∀ k, x1 = nI k → k < 2 ^ 31 → σ.1 0 12 ≤ k) : mw_M true l lw_tbl y_Mo_deliver b_Mo_deliver 2 (some .boolean) { frames := 7, cells := 0, slots := 0, locals := 168 } D vCl cA sh_Mo 22 [.inr (.inr 0), .inl x1] (S) (mw_Pi (fun z S' => z = nI 0 ∧ mR cn fv (a_rz σ 0) S')) := by
  refine mw_M_of (by decide) (Nat.le_of_ble_eq_true rfl) ?_
  intro p e s m args below meth c A ad C hR
  refine mw_aload_n C 0 d_Mo_deliver_0 rfl rfl ?_
  refine mw_iconst C (v := nI 0) d_Mo_deliver_1 (by decide) ?_
  refine mo_put C rfl h f_Mo_85 p_Mo_0 d_Mo_deliver_2 rfl rfl (fun S h => ?_)
  refine mw_iload_n C 1 d_Mo_deliver_5 rfl rfl ?_
  refine mw_if_lt C 17 d_Mo_deliver_6 (by decide) (fun h6 => ?_) (fun h6 => ?_)
  ·
    refine mw_iconst C (v := nI 0) d_Mo_deliver_17 (by decide) ?_
    refine mw_zret C hR d_Mo_deliver_18 (by decide) ?_
    exact ⟨rfl, h⟩
  ·
    obtain ⟨k, hk, rfl⟩ := nI_of2 (n := 2 ^ 31 - 1) (M := nI (2 ^ 31 - 1)) (by decide) h6 (by
      rw [Int32.le_iff_toInt_le]
      have := Int32.toInt_lt x1
      have e : (nI (2 ^ 31 - 1)).toInt = 2147483647 := by decide
      omega)
    have hle := hno k rfl (by omega)
    refine mw_iload_n C 1 d_Mo_deliver_9 rfl rfl ?_
    refine mw_aload_n C 0 d_Mo_deliver_10 rfl rfl ?_
    refine mo_get C h f_Mo_96 d_Mo_deliver_11 rfl rfl ?_
    refine mw_eqi (show _ = nI (σ.1 0 12) from rfl) ?_
    refine mw_icmp_ltN C 19 d_Mo_deliver_14 (by decide) (by omega) (by omega) (fun h14 => ?_) (fun h14 => ?_)
    · exfalso; omega
    ·
      refine mw_iconst C (v := nI 0) d_Mo_deliver_17 (by decide) ?_
      refine mw_zret C hR d_Mo_deliver_18 (by decide) ?_
      exact ⟨rfl, h⟩
set_option maxHeartbeats 4000000 in
set_option maxRecDepth 100000 in
theorem m_Mo_deliver_0 (l : Launch) (D : va_G) (cA : Nat → ClassId) (cn fv : Int32) (σ : aS) (fy B k : Nat) (S : mw_S) (h : mR cn fv σ S) (hfy : fyR fv fy) (hI : aI fy B σ) (hB : B + 4 ≤ 2400) (hk : k < σ.1 0 12) : mw_M true l lw_tbl y_Mo_deliver b_Mo_deliver 2 (some .boolean) { frames := 7, cells := 0, slots := 0, locals := 168 } D vCl cA sh_Mo 22 [.inr (.inr 0), .inl (nI k)] (S) (mw_Pi (fun z S' => z = nI 1 ∧ mR cn fv (a_comes cn fy (a_rz σ 0) k) S')) := by
  refine mw_M_of (by decide) (Nat.le_of_ble_eq_true rfl) ?_
  intro p e s m args below meth c A ad C hR
  have hm := hI.m
  refine mw_aload_n C 0 d_Mo_deliver_0 rfl rfl ?_
  refine mw_iconst C (v := nI 0) d_Mo_deliver_1 (by decide) ?_
  refine mo_put C rfl h f_Mo_85 p_Mo_0 d_Mo_deliver_2 rfl rfl (fun S h => ?_)
  refine mw_iload_n C 1 d_Mo_deliver_5 rfl rfl ?_
  refine mw_if_ltN C 17 d_Mo_deliver_6 (by decide) (by omega) ?_
  refine mw_iload_n C 1 d_Mo_deliver_9 rfl rfl ?_
  refine mw_aload_n C 0 d_Mo_deliver_10 rfl rfl ?_
  refine mo_get C h f_Mo_96 d_Mo_deliver_11 rfl rfl ?_
  refine mw_eqi (show _ = nI (σ.1 0 12) from rfl) ?_
  refine mw_icmp_ltN C 19 d_Mo_deliver_14 (by decide) (by omega) (by omega) (fun h14 => ?_) (fun h14 => ?_)
  ·
    refine mw_aload_n C 0 d_Mo_deliver_19 rfl rfl ?_
    refine mw_iload_n C 1 d_Mo_deliver_20 rfl rfl ?_
    refine mo_runv C rfl (mw_invV C (kk := 0) (m_Mo_comes l D cA cn fv _ fy B k _ (mR_rs h) hfy (aI_rz hI 0) hk hB) ix_Mo kb_Mo_198 wm_Mo_comes wv_Mo_comes (by decide) rfl rfl d_Mo_deliver_21 rfl rfl (Nat.le_of_ble_eq_true rfl) rfl rfl ⟨by decide, by decide⟩ ⟨Nat.zero_le _, Nat.zero_le _⟩) (fun S h => ?_)
    refine mw_iconst C (v := nI 1) d_Mo_deliver_24 (by decide) ?_
    refine mw_zret C hR d_Mo_deliver_25 (by decide) ?_
    exact ⟨rfl, h⟩
  · exfalso; omega
