/-! the reference's methods, the first -/
theorem mR_rs {cn fv : Int32} {σ : aS} {S : mw_S} (h : mR cn fv σ S) : mR cn fv σ (mw_rs S [0, 1, 2, 3, 4, 5, 6, 7, 8, 9, 10, 11, 12, 13, 14, 15, 16, 17, 18, 19, 20, 21]) := by
  obtain ⟨h1, h2, h3, h4, h5, h6⟩ := h
  refine ⟨h1, h2, h3, h4, fun f j hf => ?_, h6⟩
  have hf2 : f < 22 := by
    unfold mo_ar at hf
    simp only [Bool.and_eq_true, decide_eq_true_eq] at hf
    omega
  have hall : ∀ k, k < 22 → mw_ixf [0, 1, 2, 3, 4, 5, 6, 7, 8, 9, 10, 11, 12, 13, 14, 15, 16, 17, 18, 19, 20, 21] k = k := by decide
  show S.1 (mw_ixf _ f) j = _
  rw [hall f hf2]
  exact h5 f j hf
/-- the faulty node's number: 4 where there is none -/
def fyR (fv : Int32) (fy : Nat) : Prop := (fy < 4 ∧ fv = nI fy) ∨ (fy = 4 ∧ ¬ ∃ k, k < 4 ∧ fv = nI k)
set_option maxHeartbeats 4000000 in
set_option maxRecDepth 100000 in
theorem m_Mo_thrown (l : Launch) (D : va_G) (cA : Nat → ClassId) (cn fv : Int32) (σ : aS) (S : mw_S) (h : mR cn fv σ S) : mw_M false l lw_tbl y_Mo_thrown b_Mo_thrown 1 (some .int) { frames := 0, cells := 0, slots := 0, locals := 0 } D vCl cA sh_Mo 22 [.inr (.inr 0)] (S) (mw_Pi (fun z _ => z = nI (σ.1 0 0))) := by
  refine mw_M_of (by decide) (Nat.le_of_ble_eq_true rfl) ?_
  intro p e s m args below meth c A ad C hR
  refine mw_aload_n C 0 d_Mo_thrown_0 rfl rfl ?_
  refine mo_get C h f_Mo_85 d_Mo_thrown_1 rfl rfl ?_
  refine mw_iret C hR d_Mo_thrown_4 ?_
  rfl
set_option maxHeartbeats 4000000 in
set_option maxRecDepth 100000 in
theorem m_Mo_refuse (l : Launch) (D : va_G) (cA : Nat → ClassId) (cn fv : Int32) (σ : aS) (x : Nat) (S : mw_S) (h : mR cn fv σ S) : mw_M true l lw_tbl y_Mo_refuse b_Mo_refuse 2 (some .int) { frames := 0, cells := 0, slots := 0, locals := 0 } D vCl cA sh_Mo 22 [.inr (.inr 0), .inl (nI x)] (S) (mw_Pi (fun z S' => z = nI 0 ∧ mR cn fv (a_up σ 0 0 x) S')) := by
  refine mw_M_of (by decide) (Nat.le_of_ble_eq_true rfl) ?_
  intro p e s m args below meth c A ad C hR
  refine mw_aload_n C 0 d_Mo_refuse_0 rfl rfl ?_
  refine mw_iload_n C 1 d_Mo_refuse_1 rfl rfl ?_
  refine mo_put C rfl h f_Mo_85 p_Mo_0 d_Mo_refuse_2 rfl rfl (fun S h => ?_)
  refine mw_iconst C (v := nI 0) d_Mo_refuse_5 (by decide) ?_
  refine mw_iret C hR d_Mo_refuse_6 ?_
  exact ⟨rfl, h⟩
set_option maxHeartbeats 4000000 in
set_option maxRecDepth 100000 in
theorem m_Mo_isNode (l : Launch) (D : va_G) (cA : Nat → ClassId) (x : Int32) (S : mw_S) : mw_M false l lw_tbl y_Mo_isNode b_Mo_isNode 1 (some .boolean) { frames := 0, cells := 0, slots := 0, locals := 0 } D vCl cA sh0 0 [.inl x] (S) (mw_Pi (fun r _ => (r = nI 1 ∧ ∃ k, k < 4 ∧ x = nI k) ∨ (r = nI 0 ∧ ¬ ∃ k, k < 4 ∧ x = nI k))) := by
  refine mw_M_of (by decide) (Nat.le_of_ble_eq_true rfl) ?_
  intro p e s m args below meth c A ad C hR
  refine mw_iload_n C 0 d_Mo_isNode_0 rfl rfl ?_
  refine mw_if_lt C 13 d_Mo_isNode_1 (by decide) (fun h1 => ?_) (fun h1 => ?_)
  ·
    refine mw_iconst C (v := nI 0) d_Mo_isNode_13 (by decide) ?_
    refine mw_zret C hR d_Mo_isNode_14 (by decide) ?_
    exact Or.inr ⟨rfl, fun ⟨k, hk, e⟩ => by rw [e] at h1; exact nI_pos (by omega) h1⟩
  ·
    refine mw_iload_n C 0 d_Mo_isNode_4 rfl rfl ?_
    refine mw_iconst C (v := nI 3) d_Mo_isNode_5 (by decide) ?_
    refine mw_icmp_gt C 13 d_Mo_isNode_6 (by decide) (fun h6 => ?_) (fun h6 => ?_)
    ·
      refine mw_iconst C (v := nI 0) d_Mo_isNode_13 (by decide) ?_
      refine mw_zret C hR d_Mo_isNode_14 (by decide) ?_
      exact Or.inr ⟨rfl, fun ⟨k, hk, e⟩ => by rw [e] at h6; exact nI_nlt (by omega) (by decide) h6⟩
    ·
      refine mw_iconst C (v := nI 1) d_Mo_isNode_9 (by decide) ?_
      refine mw_goto C 14 d_Mo_isNode_10 (by decide) ?_
      refine mw_zret C hR d_Mo_isNode_14 (by decide) ?_
      exact Or.inl ⟨rfl, by
        obtain ⟨j, hj, e⟩ := nI_of2 (n := 3) (M := nI 3) (by decide) h1 (Int32.not_lt.mp h6)
        exact ⟨j, by omega, e⟩⟩
set_option maxHeartbeats 4000000 in
set_option maxRecDepth 100000 in
theorem m_Mo_isFaulty (l : Launch) (D : va_G) (cA : Nat → ClassId) (cn fv : Int32) (σ : aS) (fy to : Nat) (S : mw_S) (h : mR cn fv σ S) (hfy : fyR fv fy) (ht : to < 4) : mw_M false l lw_tbl y_Mo_isFaulty b_Mo_isFaulty 2 (some .boolean) { frames := 1, cells := 0, slots := 0, locals := 20 } D vCl cA sh_Mo 22 [.inr (.inr 0), .inl (nI to)] (S) (mw_Pi (fun r _ => r = nI (if to = fy then 1 else 0))) := by
  refine mw_M_of (by decide) (Nat.le_of_ble_eq_true rfl) ?_
  intro p e s m args below meth c A ad C hR
  refine mw_aload_n C 0 d_Mo_isFaulty_0 rfl rfl ?_
  refine mo_getF C h f_Mo_82 d_Mo_isFaulty_1 ?_
  refine mw_run0i C (ix0 _ _) (mw_invS C (m_Mo_isNode l D cA fv _) (ix0 _ _) kb_Mo_88 ws_Mo_isNode d_Mo_isFaulty_4 rfl rfl (Nat.le_of_ble_eq_true rfl) rfl rfl ⟨by decide, by decide⟩ ⟨Nat.zero_le _, Nat.zero_le _⟩) (fun x4 e4 => ?_)
  rcases e4 with ⟨rfl, hk⟩ | ⟨rfl, hk⟩
  ·
    rcases hfy with ⟨hy, rfl⟩ | ⟨-, hno⟩
    ·
      refine mw_if_eqN C 22 d_Mo_isFaulty_7 (by decide) (by omega) (fun h7 => ?_) (fun h7 => ?_)
      · exact absurd h7 (by decide)
      ·
        refine mw_iload_n C 1 d_Mo_isFaulty_10 rfl rfl ?_
        refine mw_aload_n C 0 d_Mo_isFaulty_11 rfl rfl ?_
        refine mo_getF C h f_Mo_82 d_Mo_isFaulty_12 ?_
        refine mw_icmp_neN C 22 d_Mo_isFaulty_15 (by decide) (by omega) (by omega) (fun h15 => ?_) (fun h15 => ?_)
        ·
          refine mw_iconst C (v := nI 0) d_Mo_isFaulty_22 (by decide) ?_
          refine mw_zret C hR d_Mo_isFaulty_23 (by decide) ?_
          rw [if_neg h15]
        ·
          refine mw_iconst C (v := nI 1) d_Mo_isFaulty_18 (by decide) ?_
          refine mw_goto C 23 d_Mo_isFaulty_19 (by decide) ?_
          refine mw_zret C hR d_Mo_isFaulty_23 (by decide) ?_
          rw [if_pos h15]
    · exact absurd hk hno
  ·
    rcases hfy with ⟨hy, hy2⟩ | ⟨hy, hno⟩
    · exact absurd ⟨fy, hy, hy2⟩ hk
    ·
      refine mw_if_eqN C 22 d_Mo_isFaulty_7 (by decide) (by omega) (fun h7 => ?_) (fun h7 => ?_)
      ·
        refine mw_iconst C (v := nI 0) d_Mo_isFaulty_22 (by decide) ?_
        refine mw_zret C hR d_Mo_isFaulty_23 (by decide) ?_
        rw [if_neg (by omega)]
      · exact absurd h7 (by decide)
set_option maxHeartbeats 4000000 in
set_option maxRecDepth 100000 in
theorem m_Mo_sendOne (l : Launch) (D : va_G) (cA : Nat → ClassId) (cn fv : Int32) (σ : aS) (fy kind fr to v : Nat) (S : mw_S) (h : mR cn fv σ S) (hfy : fyR fv fy) (hk : kind < 4) (hf : fr < 4) (ht : to < 4) (hv : v < 80) (hm : σ.1 0 12 < 2400) : mw_M true l lw_tbl y_Mo_sendOne b_Mo_sendOne 5 none { frames := 2, cells := 0, slots := 0, locals := 41 } D vCl cA sh_Mo 22 [.inr (.inr 0), .inl (nI kind), .inl (nI fr), .inl (nI to), .inl (nI v)] (S) (mw_Pv (fun S' => mR cn fv (a_send fy σ kind fr to v) S')) := by
  refine mw_M_of (by decide) (Nat.le_of_ble_eq_true rfl) ?_
  intro p e s m args below meth c A ad C hR
  refine mw_aload_n C 0 d_Mo_sendOne_0 rfl rfl ?_
  refine mw_iload_n C 3 d_Mo_sendOne_1 rfl rfl ?_
  refine mw_run0i C ix_Mo (mw_invV C (kk := 0) (m_Mo_isFaulty l D cA cn fv σ fy to _ (mR_rs h) hfy ht) ix_Mo kb_Mo_93 wm_Mo_isFaulty wv_Mo_isFaulty (by decide) rfl rfl d_Mo_sendOne_2 rfl rfl (Nat.le_of_ble_eq_true rfl) rfl rfl ⟨by decide, by decide⟩ ⟨Nat.zero_le _, Nat.zero_le _⟩) (fun x2 e2 => ?_)
  subst e2
  by_cases he : to = fy
  ·
    rw [if_pos he]
    refine mw_if_eqN C 9 d_Mo_sendOne_5 (by decide) (by omega) (fun h5 => ?_) (fun h5 => ?_)
    · exact absurd h5 (by decide)
    ·
      refine mw_vret C hR d_Mo_sendOne_8 ?_
      unfold a_send
      rw [if_pos he]
      exact h
  ·
    rw [if_neg he]
    refine mw_if_eqN C 9 d_Mo_sendOne_5 (by decide) (by omega) (fun h5 => ?_) (fun h5 => ?_)
    ·
      refine mw_aload_n C 0 d_Mo_sendOne_9 rfl rfl ?_
      refine mw_getr C f_Mo_23 d_Mo_sendOne_10 (by decide) rfl rfl ?_
      refine mw_aload_n C 0 d_Mo_sendOne_13 rfl rfl ?_
      refine mo_get C h f_Mo_96 d_Mo_sendOne_14 rfl rfl ?_
      refine mw_iload_n C 1 d_Mo_sendOne_17 rfl rfl ?_
      refine mw_iconst C (v := nI 4) d_Mo_sendOne_18 (by decide) ?_
      refine mw_imulN C d_Mo_sendOne_19 ?_
      refine mw_iload_n C 2 d_Mo_sendOne_20 rfl rfl ?_
      refine mw_iaddN C d_Mo_sendOne_21 ?_
      refine mw_iconst C (v := nI 4) d_Mo_sendOne_22 (by decide) ?_
      refine mw_imulN C d_Mo_sendOne_23 ?_
      refine mw_iload_n C 3 d_Mo_sendOne_24 rfl rfl ?_
      refine mw_iaddN C d_Mo_sendOne_25 ?_
      refine mw_bipush C (v := nI 80) d_Mo_sendOne_26 (by decide) ?_
      refine mw_imulN C d_Mo_sendOne_28 ?_
      refine mw_iload C d_Mo_sendOne_29 rfl ?_
      refine mw_iaddN C d_Mo_sendOne_31 ?_
      refine mo_ast C rfl h d_Mo_sendOne_32 (by decide) rfl rfl (by omega) (by decide) (fun S h => ?_)
      refine mw_aload_n C 0 d_Mo_sendOne_33 rfl rfl ?_
      refine mw_dup C d_Mo_sendOne_34 rfl ?_
      refine mo_get C h f_Mo_96 d_Mo_sendOne_35 rfl rfl ?_
      refine mw_eqi (show _ = nI (σ.1 0 12) from by rw [a_up_f _ _ _ _ (by decide)]) ?_
      refine mw_iconst C (v := nI 1) d_Mo_sendOne_38 (by decide) ?_
      refine mw_iaddN C d_Mo_sendOne_39 ?_
      refine mo_put C rfl h f_Mo_96 p_Mo_12 d_Mo_sendOne_40 rfl rfl (fun S h => ?_)
      refine mw_vret C hR d_Mo_sendOne_43 ?_
      unfold a_send a_msg
      rw [if_neg he]
      exact h
    · exact absurd h5 (by decide)
theorem a_send_12 (fy : Nat) (σ : aS) (kind fr to v : Nat) : (a_send fy σ kind fr to v).1 0 12 ≤ σ.1 0 12 + 1 := by
  unfold a_send
  split
  · omega
  · rw [a_up_s]; exact Nat.le_refl _
theorem a_cast_12 (fy kind fr v : Nat) (σ : aS) : ∀ k, (a_cast fy kind fr v k σ).1 0 12 ≤ σ.1 0 12 + k
  | 0 => Nat.le_refl _
  | k + 1 => by
    have h1 := a_cast_12 fy kind fr v σ k
    have h2 := a_send_12 fy (a_cast fy kind fr v k σ) kind fr k v
    unfold a_cast
    omega
set_option maxHeartbeats 4000000 in
set_option maxRecDepth 100000 in
theorem m_Mo_broadcast (l : Launch) (D : va_G) (cA : Nat → ClassId) (cn fv : Int32) (σ : aS) (fy kind fr v : Nat) (S : mw_S) (h : mR cn fv σ S) (hfy : fyR fv fy) (hk : kind < 4) (hf : fr < 4) (hv : v < 80) (hm : σ.1 0 12 + 4 ≤ 2400) : mw_M true l lw_tbl y_Mo_broadcast b_Mo_broadcast 5 none { frames := 3, cells := 0, slots := 0, locals := 65 } D vCl cA sh_Mo 22 [.inr (.inr 0), .inl (nI kind), .inl (nI fr), .inl (nI v)] (S) (mw_Pv (fun S' => mR cn fv (a_cast fy kind fr v 4 σ) S')) := by
  refine mw_M_of (by decide) (Nat.le_of_ble_eq_true rfl) ?_
  intro p e s m args below meth c A ad C hR
  have L : ∀ (dd i : Nat) (S1 : mw_S), i + dd = 4 → mR cn fv (a_cast fy kind fr v i σ) S1 → mw p l e { frames := 3, cells := 0, slots := 0, locals := 65 } s m args below meth c (MQ below (mw_Qc true D vCl cA ad sh_Mo 22 s.heap.size (S) (mw_Pv (fun S' => mR cn fv (a_cast fy kind fr v 4 σ) S'))) args s 0 0 A) 0 0 D vCl cA A ad sh_Mo 22 5 (3) ([(4, .inl (nI i)), (0, .inr (.inr 0)), (1, .inl (nI kind)), (2, .inl (nI fr)), (3, .inl (nI v))]) ([]) (S1) := by
    intro dd
    induction dd with
    | zero =>
      intro i S1 hi h
      refine mw_iload C d_Mo_broadcast_3 rfl ?_
      refine mw_iconst C (v := nI 4) d_Mo_broadcast_5 (by decide) ?_
      refine mw_icmp_geN C 24 d_Mo_broadcast_6 (by decide) (by omega) (by omega) (fun h6 => ?_) (fun h6 => ?_)
      ·
        refine mw_vret C hR d_Mo_broadcast_24 ?_
        rw [show i = 4 from by omega] at h
        exact h
      · exfalso; omega
    | succ dd ih =>
      intro i S1 hi h
      have hle := a_cast_12 fy kind fr v σ i
      refine mw_iload C d_Mo_broadcast_3 rfl ?_
      refine mw_iconst C (v := nI 4) d_Mo_broadcast_5 (by decide) ?_
      refine mw_icmp_geN C 24 d_Mo_broadcast_6 (by decide) (by omega) (by omega) (fun h6 => ?_) (fun h6 => ?_)
      · exfalso; omega
      ·
        refine mw_aload_n C 0 d_Mo_broadcast_9 rfl rfl ?_
        refine mw_iload_n C 1 d_Mo_broadcast_10 rfl rfl ?_
        refine mw_iload_n C 2 d_Mo_broadcast_11 rfl rfl ?_
        refine mw_iload C d_Mo_broadcast_12 rfl ?_
        refine mw_iload_n C 3 d_Mo_broadcast_14 rfl rfl ?_
        refine mo_runv C rfl (mw_invV C (kk := 0) (m_Mo_sendOne l D cA cn fv (a_cast fy kind fr v i σ) fy kind fr i v _ (mR_rs h) hfy hk hf (by omega) hv (by omega)) ix_Mo kb_Mo_99 wm_Mo_sendOne wv_Mo_sendOne (by decide) rfl rfl d_Mo_broadcast_15 rfl rfl (Nat.le_of_ble_eq_true rfl) rfl rfl ⟨by decide, by decide⟩ ⟨Nat.zero_le _, Nat.zero_le _⟩) (fun S h => ?_)
        refine mw_iincN C d_Mo_broadcast_18 rfl (by decide) ?_
        refine mw_goto C 3 d_Mo_broadcast_21 (by decide) ?_
        exact mw_to _ (by exact And.intro rfl (And.intro rfl (And.intro rfl (And.intro rfl (And.intro rfl (trivial)))))) (ih (i + 1) S (by omega) h)
  refine mw_iconst C (v := nI 0) d_Mo_broadcast_0 (by decide) ?_
  refine mw_istore C d_Mo_broadcast_1 (by decide) ?_
  exact mw_to _ (by exact And.intro rfl (And.intro rfl (And.intro rfl (And.intro rfl (And.intro rfl (trivial)))))) (L 4 0 S rfl h)
set_option maxHeartbeats 4000000 in
set_option maxRecDepth 100000 in
theorem m_Mo_sendComes (l : Launch) (D : va_G) (cA : Nat → ClassId) (cn fv : Int32) (σ : aS) (fy fr to v at_ : Nat) (S : mw_S) (h : mR cn fv σ S) (hfy : fyR fv fy) (hf : fr < 4) (ht : to < 4) (hv : v < 80) (ha : at_ < 192) (hp : σ.1 1 v < 48) (h6 : σ.1 6 at_ ≤ 1) (hm : σ.1 0 12 + 4 ≤ 2400) : mw_M true l lw_tbl y_Mo_sendComes b_Mo_sendComes 5 none { frames := 4, cells := 0, slots := 0, locals := 89 } D vCl cA sh_Mo 22 [.inr (.inr 0), .inl (nI fr), .inl (nI to), .inl (nI v), .inl (nI at_)] (S) (mw_Pv (fun S' => mR cn fv (a_sendC fy σ fr to v at_) S')) := by
  refine mw_M_of (by decide) (Nat.le_of_ble_eq_true rfl) ?_
  intro p e s m args below meth c A ad C hR
  refine mw_iload_n C 1 d_Mo_sendComes_0 rfl rfl ?_
  refine mw_aload_n C 0 d_Mo_sendComes_1 rfl rfl ?_
  refine mw_getr C f_Mo_7 d_Mo_sendComes_2 (by decide) rfl rfl ?_
  refine mw_iload_n C 3 d_Mo_sendComes_5 rfl rfl ?_
  refine mo_ald C h d_Mo_sendComes_6 (by decide) rfl rfl (by omega) (by decide) ?_
  refine mw_iconst C (v := nI 4) d_Mo_sendComes_7 (by decide) ?_
  refine mw_iremN C d_Mo_sendComes_8 (by omega) (by decide) (by decide) ?_
  refine mw_icmp_neN C 22 d_Mo_sendComes_9 (by decide) (by omega) (by omega) (fun h9 => ?_) (fun h9 => ?_)
  ·
    refine mw_vret C hR d_Mo_sendComes_22 ?_
    unfold a_sendC
    rw [if_neg (fun h => h9 h.1)]
    exact h
  ·
    refine mw_aload_n C 0 d_Mo_sendComes_12 rfl rfl ?_
    refine mw_getr C f_Mo_26 d_Mo_sendComes_13 (by decide) rfl rfl ?_
    refine mw_iload C d_Mo_sendComes_16 rfl ?_
    refine mo_zald C h d_Mo_sendComes_18 (by decide) rfl rfl (by omega) (by decide) ?_
    refine mw_if_eqN C 23 d_Mo_sendComes_19 (by decide) (by omega) (fun h19 => ?_) (fun h19 => ?_)
    ·
      refine mw_aload_n C 0 d_Mo_sendComes_23 rfl rfl ?_
      refine mw_getr C f_Mo_26 d_Mo_sendComes_24 (by decide) rfl rfl ?_
      refine mw_iload C d_Mo_sendComes_27 rfl ?_
      refine mw_iconst C (v := nI 1) d_Mo_sendComes_29 (by decide) ?_
      refine mo_zast C rfl h d_Mo_sendComes_30 (by decide) rfl rfl (by omega) (by decide) (by decide) (fun S h => ?_)
      refine mw_aload_n C 0 d_Mo_sendComes_31 rfl rfl ?_
      refine mw_iconst C (v := nI 1) d_Mo_sendComes_32 (by decide) ?_
      refine mw_iload_n C 2 d_Mo_sendComes_33 rfl rfl ?_
      refine mw_iload_n C 3 d_Mo_sendComes_34 rfl rfl ?_
      refine mo_runv C rfl (mw_invV C (kk := 0) (m_Mo_broadcast l D cA cn fv (a_up σ 6 at_ 1) fy 1 to v _ (mR_rs h) hfy (by decide) ht hv (by rw [a_up_f _ _ _ _ (by decide)]; exact hm)) ix_Mo kb_Mo_120 wm_Mo_broadcast wv_Mo_broadcast (by decide) rfl rfl d_Mo_sendComes_35 rfl rfl (Nat.le_of_ble_eq_true rfl) rfl rfl ⟨by decide, by decide⟩ ⟨Nat.zero_le _, Nat.zero_le _⟩) (fun S h => ?_)
      refine mw_vret C hR d_Mo_sendComes_38 ?_
      unfold a_sendC
      rw [if_pos ⟨h9, h19⟩]
      exact h
    ·
      refine mw_vret C hR d_Mo_sendComes_22 ?_
      unfold a_sendC
      rw [if_neg (fun h => by omega)]
      exact h
set_option maxHeartbeats 4000000 in
set_option maxRecDepth 100000 in
theorem m_Mo_noted (l : Launch) (D : va_G) (cA : Nat → ClassId) (f : Nat → Nat) (at_ v : Nat) (S : mw_S) (hS : ∀ j, S.1 0 j = nI (f j)) (hb : ∀ j, f j < 2 ^ 31) (ha : at_ < 192) (hv : v < 80) : mw_M false l lw_tbl y_Mo_noted b_Mo_noted 5 (some .int) { frames := 0, cells := 0, slots := 0, locals := 0 } D vCl cA sh_I768 1 [.inr (.inr 0), .inl (nI at_), .inl (nI v)] (S) (mw_Pi (fun r _ => r = nI (a_noted f at_ v 4))) := by
  refine mw_M_of (by decide) (Nat.le_of_ble_eq_true rfl) ?_
  intro p e s m args below meth c A ad C hR
  have L : ∀ (dd i : Nat), i + dd = 4 → mw p l e { frames := 0, cells := 0, slots := 0, locals := 0 } s m args below meth c (MQ below (mw_Qc false D vCl cA ad sh_I768 1 s.heap.size (S) (mw_Pi (fun r _ => r = nI (a_noted f at_ v 4)))) args s 0 0 A) 0 0 D vCl cA A ad sh_I768 1 5 (5) ([(4, .inl (nI i)), (3, .inl (nI (a_noted f at_ v i))), (0, .inr (.inr 0)), (1, .inl (nI at_)), (2, .inl (nI v))]) ([]) (S) := by
    intro dd
    induction dd with
    | zero =>
      intro i hi
      refine mw_iload C d_Mo_noted_5 rfl ?_
      refine mw_iconst C (v := nI 4) d_Mo_noted_7 (by decide) ?_
      refine mw_icmp_geN C 37 d_Mo_noted_8 (by decide) (by omega) (by omega) (fun h8 => ?_) (fun h8 => ?_)
      ·
        refine mw_iload_n C 3 d_Mo_noted_37 rfl rfl ?_
        refine mw_iret C hR d_Mo_noted_38 ?_
        rw [show i = 4 from by omega]
      · exfalso; omega
    | succ dd ih =>
      intro i hi
      have hbi := hb (4 * at_ + i)
      refine mw_iload C d_Mo_noted_5 rfl ?_
      refine mw_iconst C (v := nI 4) d_Mo_noted_7 (by decide) ?_
      refine mw_icmp_geN C 37 d_Mo_noted_8 (by decide) (by omega) (by omega) (fun h8 => ?_) (fun h8 => ?_)
      · exfalso; omega
      ·
        refine mw_iload_n C 3 d_Mo_noted_11 rfl rfl ?_
        refine mw_aload_n C 0 d_Mo_noted_12 rfl rfl ?_
        refine mw_iconst C (v := nI 4) d_Mo_noted_13 (by decide) ?_
        refine mw_iload_n C 1 d_Mo_noted_14 rfl rfl ?_
        refine mw_imulN C d_Mo_noted_15 ?_
        refine mw_iload C d_Mo_noted_16 rfl ?_
        refine mw_iaddN C d_Mo_noted_18 ?_
        refine mw_ialdN C d_Mo_noted_19 (by decide) rfl (by omega) (by decide) ?_
        refine mw_eqi (hS _) ?_
        refine mw_iload_n C 2 d_Mo_noted_20 rfl rfl ?_
        refine mw_icmp_neN C 28 d_Mo_noted_21 (by decide) (by omega) (by omega) (fun h21 => ?_) (fun h21 => ?_)
        ·
          refine mw_iconst C (v := nI 0) d_Mo_noted_28 (by decide) ?_
          refine mw_iaddN C d_Mo_noted_29 ?_
          refine mw_istore_n C 3 d_Mo_noted_30 rfl (by decide) ?_
          refine mw_iincN C d_Mo_noted_31 rfl (by decide) ?_
          refine mw_goto C 5 d_Mo_noted_34 (by decide) ?_
          refine mw_eq _ _ _ (by exact And.intro rfl (And.intro (by show some (Sum.inl _) = _; rw [a_noted, if_neg h21]) (And.intro rfl (And.intro rfl (And.intro rfl trivial))))) rfl rfl (ih (i + 1) (by omega))
        ·
          refine mw_iconst C (v := nI 1) d_Mo_noted_24 (by decide) ?_
          refine mw_goto C 29 d_Mo_noted_25 (by decide) ?_
          refine mw_iaddN C d_Mo_noted_29 ?_
          refine mw_istore_n C 3 d_Mo_noted_30 rfl (by decide) ?_
          refine mw_iincN C d_Mo_noted_31 rfl (by decide) ?_
          refine mw_goto C 5 d_Mo_noted_34 (by decide) ?_
          refine mw_eq _ _ _ (by exact And.intro rfl (And.intro (by show some (Sum.inl _) = _; rw [a_noted, if_pos h21]) (And.intro rfl (And.intro rfl (And.intro rfl trivial))))) rfl rfl (ih (i + 1) (by omega))
  refine mw_iconst C (v := nI 0) d_Mo_noted_0 (by decide) ?_
  refine mw_istore_n C 3 d_Mo_noted_1 rfl (by decide) ?_
  refine mw_iconst C (v := nI 0) d_Mo_noted_2 (by decide) ?_
  refine mw_istore C d_Mo_noted_3 (by decide) ?_
  exact mw_to _ (by exact And.intro rfl (And.intro rfl (And.intro rfl (And.intro rfl (And.intro rfl (trivial)))))) (L 4 0 rfl)
set_option maxHeartbeats 4000000 in
set_option maxRecDepth 100000 in
theorem m_Mo_ready (l : Launch) (D : va_G) (cA : Nat → ClassId) (cn fv : Int32) (σ : aS) (fy to v at_ : Nat) (S : mw_S) (h : mR cn fv σ S) (hfy : fyR fv fy) (ht : to < 4) (hv : v < 80) (ha : at_ < 192) (h7 : σ.1 7 at_ ≤ 1) (hm : σ.1 0 12 + 4 ≤ 2400) : mw_M true l lw_tbl y_Mo_ready b_Mo_ready 4 none { frames := 4, cells := 0, slots := 0, locals := 89 } D vCl cA sh_Mo 22 [.inr (.inr 0), .inl (nI to), .inl (nI v), .inl (nI at_)] (S) (mw_Pv (fun S' => mR cn fv (a_ready fy σ to v at_) S')) := by
  refine mw_M_of (by decide) (Nat.le_of_ble_eq_true rfl) ?_
  intro p e s m args below meth c A ad C hR
  refine mw_aload_n C 0 d_Mo_ready_0 rfl rfl ?_
  refine mw_getr C f_Mo_30 d_Mo_ready_1 (by decide) rfl rfl ?_
  refine mw_iload_n C 3 d_Mo_ready_4 rfl rfl ?_
  refine mo_zald C h d_Mo_ready_5 (by decide) rfl rfl (by omega) (by decide) ?_
  refine mw_if_eqN C 10 d_Mo_ready_6 (by decide) (by omega) (fun h6 => ?_) (fun h6 => ?_)
  ·
    refine mw_aload_n C 0 d_Mo_ready_10 rfl rfl ?_
    refine mw_getr C f_Mo_30 d_Mo_ready_11 (by decide) rfl rfl ?_
    refine mw_iload_n C 3 d_Mo_ready_14 rfl rfl ?_
    refine mw_iconst C (v := nI 1) d_Mo_ready_15 (by decide) ?_
    refine mo_zast C rfl h d_Mo_ready_16 (by decide) rfl rfl (by omega) (by decide) (by decide) (fun S h => ?_)
    refine mw_aload_n C 0 d_Mo_ready_17 rfl rfl ?_
    refine mw_iconst C (v := nI 2) d_Mo_ready_18 (by decide) ?_
    refine mw_iload_n C 1 d_Mo_ready_19 rfl rfl ?_
    refine mw_iload_n C 2 d_Mo_ready_20 rfl rfl ?_
    refine mo_runv C rfl (mw_invV C (kk := 0) (m_Mo_broadcast l D cA cn fv (a_up σ 7 at_ 1) fy 2 to v _ (mR_rs h) hfy (by decide) ht hv (by rw [a_up_f _ _ _ _ (by decide)]; exact hm)) ix_Mo kb_Mo_120 wm_Mo_broadcast wv_Mo_broadcast (by decide) rfl rfl d_Mo_ready_21 rfl rfl (Nat.le_of_ble_eq_true rfl) rfl rfl ⟨by decide, by decide⟩ ⟨Nat.zero_le _, Nat.zero_le _⟩) (fun S h => ?_)
    refine mw_vret C hR d_Mo_ready_24 ?_
    unfold a_ready
    rw [if_pos h6]
    exact h
  ·
    refine mw_vret C hR d_Mo_ready_9 ?_
    unfold a_ready
    rw [if_neg (by omega)]
    exact h
theorem a_noted_le (f : Nat → Nat) (at_ v : Nat) : ∀ k, a_noted f at_ v k ≤ k
  | 0 => Nat.le_refl 0
  | k + 1 => by
    have := a_noted_le f at_ v k
    unfold a_noted
    split <;> omega
set_option maxHeartbeats 4000000 in
set_option maxRecDepth 100000 in
theorem m_Mo_echoComes (l : Launch) (D : va_G) (cA : Nat → ClassId) (cn fv : Int32) (σ : aS) (fy fr to v at_ : Nat) (S : mw_S) (h : mR cn fv σ S) (hfy : fyR fv fy) (hf : fr < 4) (ht : to < 4) (hv : v < 80) (ha : at_ < 192) (h12 : ∀ j, σ.1 12 j < 80) (h7 : σ.1 7 at_ ≤ 1) (hm : σ.1 0 12 + 4 ≤ 2400) : mw_M true l lw_tbl y_Mo_echoComes b_Mo_echoComes 5 none { frames := 5, cells := 0, slots := 0, locals := 112 } D vCl cA sh_Mo 22 [.inr (.inr 0), .inl (nI fr), .inl (nI to), .inl (nI v), .inl (nI at_)] (S) (mw_Pv (fun S' => mR cn fv (a_echoC fy σ fr to v at_) S')) := by
  refine mw_M_of (by decide) (Nat.le_of_ble_eq_true rfl) ?_
  intro p e s m args below meth c A ad C hR
  have h12a := h12 (4 * at_ + fr)
  refine mw_aload_n C 0 d_Mo_echoComes_0 rfl rfl ?_
  refine mw_getr C f_Mo_45 d_Mo_echoComes_1 (by decide) rfl rfl ?_
  refine mw_iconst C (v := nI 4) d_Mo_echoComes_4 (by decide) ?_
  refine mw_iload C d_Mo_echoComes_5 rfl ?_
  refine mw_imulN C d_Mo_echoComes_7 ?_
  refine mw_iload_n C 1 d_Mo_echoComes_8 rfl rfl ?_
  refine mw_iaddN C d_Mo_echoComes_9 ?_
  refine mo_ald C h d_Mo_echoComes_10 (by decide) rfl rfl (by omega) (by decide) ?_
  refine mw_if_eqN C 15 d_Mo_echoComes_11 (by decide) (by omega) (fun h11 => ?_) (fun h11 => ?_)
  ·
    refine mw_aload_n C 0 d_Mo_echoComes_15 rfl rfl ?_
    refine mw_getr C f_Mo_45 d_Mo_echoComes_16 (by decide) rfl rfl ?_
    refine mw_iconst C (v := nI 4) d_Mo_echoComes_19 (by decide) ?_
    refine mw_iload C d_Mo_echoComes_20 rfl ?_
    refine mw_imulN C d_Mo_echoComes_22 ?_
    refine mw_iload_n C 1 d_Mo_echoComes_23 rfl rfl ?_
    refine mw_iaddN C d_Mo_echoComes_24 ?_
    refine mw_iload_n C 3 d_Mo_echoComes_25 rfl rfl ?_
    refine mo_ast C rfl h d_Mo_echoComes_26 (by decide) rfl rfl (by omega) (by decide) (fun S h => ?_)
    refine mw_aload_n C 0 d_Mo_echoComes_27 rfl rfl ?_
    refine mw_getr C f_Mo_45 d_Mo_echoComes_28 (by decide) rfl rfl ?_
    refine mw_iload C d_Mo_echoComes_31 rfl ?_
    refine mw_iload_n C 3 d_Mo_echoComes_33 rfl rfl ?_
    have hb12 : ∀ j, (a_up σ 12 (4 * at_ + fr) v).1 12 j < 80 := fun j => by
      rw [a_up_at]
      split
      · exact hv
      · exact h12 j
    have hle := a_noted_le ((a_up σ 12 (4 * at_ + fr) v).1 12) at_ v 4
    refine mw_run0i C ix_I_Mo12 (mw_invS C (m_Mo_noted l D cA ((a_up σ 12 (4 * at_ + fr) v).1 12) at_ v _ (fun j => h.2.2.2.2.1 12 j rfl) (fun j => Nat.lt_trans (hb12 j) (by decide)) ha hv) ix_I_Mo12 kb_Mo_124 ws_Mo_noted d_Mo_echoComes_34 rfl rfl (Nat.le_of_ble_eq_true rfl) rfl rfl ⟨by decide, by decide⟩ ⟨Nat.zero_le _, Nat.zero_le _⟩) (fun x34 e34 => ?_)
    subst e34
    refine mw_iconst C (v := nI 3) d_Mo_echoComes_37 (by decide) ?_
    refine mw_icmp_ltN C 49 d_Mo_echoComes_38 (by decide) (by omega) (by omega) (fun h38 => ?_) (fun h38 => ?_)
    ·
      refine mw_vret C hR d_Mo_echoComes_49 ?_
      unfold a_echoC
      rw [if_pos h11, if_neg (by omega)]
      exact h
    ·
      refine mw_aload_n C 0 d_Mo_echoComes_41 rfl rfl ?_
      refine mw_iload_n C 2 d_Mo_echoComes_42 rfl rfl ?_
      refine mw_iload_n C 3 d_Mo_echoComes_43 rfl rfl ?_
      refine mw_iload C d_Mo_echoComes_44 rfl ?_
      refine mo_runv C rfl (mw_invV C (kk := 0) (m_Mo_ready l D cA cn fv _ fy to v at_ _ (mR_rs h) hfy ht hv ha (by rw [a_up_f _ _ _ _ (by decide)]; exact h7) (by rw [a_up_f _ _ _ _ (by decide)]; exact hm)) ix_Mo kb_Mo_128 wm_Mo_ready wv_Mo_ready (by decide) rfl rfl d_Mo_echoComes_46 rfl rfl (Nat.le_of_ble_eq_true rfl) rfl rfl ⟨by decide, by decide⟩ ⟨Nat.zero_le _, Nat.zero_le _⟩) (fun S h => ?_)
      refine mw_vret C hR d_Mo_echoComes_49 ?_
      unfold a_echoC
      rw [if_pos h11, if_pos (by omega)]
      exact h
  ·
    refine mw_vret C hR d_Mo_echoComes_14 ?_
    unfold a_echoC
    rw [if_neg (by omega)]
    exact h
theorem mo_pop4 : ∀ k, k < 16 → (nI k &&& nI 1) + ((nI k >>> (nI 1 &&& 31)) &&& nI 1) + ((nI k >>> (nI 2 &&& 31)) &&& nI 1) + ((nI k >>> (nI 3 &&& 31)) &&& nI 1) = nI (pop4 k) := by decide +kernel
set_option maxHeartbeats 4000000 in
set_option maxRecDepth 100000 in
theorem m_Mo_bits (l : Launch) (D : va_G) (cA : Nat → ClassId) (k : Nat) (hk : k < 16) (S : mw_S) : mw_M false l lw_tbl y_Mo_bits b_Mo_bits 1 (some .int) { frames := 0, cells := 0, slots := 0, locals := 0 } D vCl cA sh0 0 [.inl (nI k)] (S) (mw_Pi (fun r _ => r = nI (pop4 k))) := by
  refine mw_M_of (by decide) (Nat.le_of_ble_eq_true rfl) ?_
  intro p e s m args below meth c A ad C hR
  refine mw_iload_n C 0 d_Mo_bits_0 rfl rfl ?_
  refine mw_iconst C (v := nI 1) d_Mo_bits_1 (by decide) ?_
  refine mw_iand C d_Mo_bits_2 ?_
  refine mw_iload_n C 0 d_Mo_bits_3 rfl rfl ?_
  refine mw_iconst C (v := nI 1) d_Mo_bits_4 (by decide) ?_
  refine mw_ishr C d_Mo_bits_5 ?_
  refine mw_iconst C (v := nI 1) d_Mo_bits_6 (by decide) ?_
  refine mw_iand C d_Mo_bits_7 ?_
  refine mw_iadd C d_Mo_bits_8 ?_
  refine mw_iload_n C 0 d_Mo_bits_9 rfl rfl ?_
  refine mw_iconst C (v := nI 2) d_Mo_bits_10 (by decide) ?_
  refine mw_ishr C d_Mo_bits_11 ?_
  refine mw_iconst C (v := nI 1) d_Mo_bits_12 (by decide) ?_
  refine mw_iand C d_Mo_bits_13 ?_
  refine mw_iadd C d_Mo_bits_14 ?_
  refine mw_iload_n C 0 d_Mo_bits_15 rfl rfl ?_
  refine mw_iconst C (v := nI 3) d_Mo_bits_16 (by decide) ?_
  refine mw_ishr C d_Mo_bits_17 ?_
  refine mw_iconst C (v := nI 1) d_Mo_bits_18 (by decide) ?_
  refine mw_iand C d_Mo_bits_19 ?_
  refine mw_iadd C d_Mo_bits_20 ?_
  refine mw_iret C hR d_Mo_bits_21 ?_
  exact mo_pop4 k hk
