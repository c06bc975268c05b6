/-! the reference: a node goes on -/
def a_full (σ : aS) (node : Nat) : Bool := decide (σ.1 14 node = 0) || decide (3 ≤ pop4 (a_inR σ node (σ.1 14 node) 4))
set_option maxHeartbeats 4000000 in
set_option maxRecDepth 100000 in
theorem m_Mo_isFull (l : Launch) (D : va_G) (cA : Nat → ClassId) (cn fv : Int32) (σ : aS) (fy B node : Nat) (S : mw_S) (h : mR cn fv σ S) (hI : aI fy B σ) (hn : node < 4) : mw_M false l lw_tbl y_Mo_isFull b_Mo_isFull 2 (some .boolean) { frames := 1, cells := 0, slots := 0, locals := 24 } D vCl cA sh_Mo 22 [.inr (.inr 0), .inl (nI node)] (S) (mw_Pi (fun r _ => r = nI (a_full σ node).toNat)) := by
  refine mw_M_of (by decide) (Nat.le_of_ble_eq_true rfl) ?_
  intro p e s m args below meth c A ad C hR
  have ho := hI.ow node
  refine mw_aload_n C 0 d_Mo_isFull_0 rfl rfl ?_
  refine mw_getr C f_Mo_51 d_Mo_isFull_1 (by decide) rfl rfl ?_
  refine mw_iload_n C 1 d_Mo_isFull_4 rfl rfl ?_
  refine mo_ald C h d_Mo_isFull_5 (by decide) rfl rfl (by omega) (by decide) ?_
  refine mw_if_eqN C 27 d_Mo_isFull_6 (by decide) (by omega) (fun h6 => ?_) (fun h6 => ?_)
  ·
    refine mw_iconst C (v := nI 1) d_Mo_isFull_27 (by decide) ?_
    refine mw_goto C 32 d_Mo_isFull_28 (by decide) ?_
    refine mw_zret C hR d_Mo_isFull_32 (by decide) ?_
    unfold a_full
    rw [decide_eq_true h6]
    rfl
  ·
    refine mw_aload_n C 0 d_Mo_isFull_9 rfl rfl ?_
    refine mw_iload_n C 1 d_Mo_isFull_10 rfl rfl ?_
    refine mw_aload_n C 0 d_Mo_isFull_11 rfl rfl ?_
    refine mw_getr C f_Mo_51 d_Mo_isFull_12 (by decide) rfl rfl ?_
    refine mw_iload_n C 1 d_Mo_isFull_15 rfl rfl ?_
    refine mo_ald C h d_Mo_isFull_16 (by decide) rfl rfl (by omega) (by decide) ?_
    refine mw_run0i C ix_Mo (mw_invV C (kk := 0) (m_Mo_inRound l D cA cn fv σ node (σ.1 14 node) _ (mR_rs h) hn (by omega) ho hI.f9) ix_Mo kb_Mo_168 wm_Mo_inRound wv_Mo_inRound (by decide) rfl rfl d_Mo_isFull_17 rfl rfl (Nat.le_of_ble_eq_true rfl) rfl rfl ⟨by decide, by decide⟩ ⟨Nat.zero_le _, Nat.zero_le _⟩) (fun x17 e17 => ?_)
    subst e17
    refine mw_run0i C (ix0 _ _) (mw_invS C (m_Mo_bits l D cA (a_inR σ node (σ.1 14 node) 4) (a_inR_lt σ node _ 4) _) (ix0 _ _) kb_Mo_134 ws_Mo_bits d_Mo_isFull_20 rfl rfl (Nat.le_of_ble_eq_true rfl) rfl rfl ⟨by decide, by decide⟩ ⟨Nat.zero_le _, Nat.zero_le _⟩) (fun x20 e20 => ?_)
    subst e20
    have hp4 := pop4_lt (a_inR σ node (σ.1 14 node) 4)
    refine mw_iconst C (v := nI 3) d_Mo_isFull_23 (by decide) ?_
    refine mw_icmp_ltN C 31 d_Mo_isFull_24 (by decide) (by omega) (by omega) (fun h24 => ?_) (fun h24 => ?_)
    ·
      refine mw_iconst C (v := nI 0) d_Mo_isFull_31 (by decide) ?_
      refine mw_zret C hR d_Mo_isFull_32 (by decide) ?_
      unfold a_full
      rw [decide_eq_false (by omega), decide_eq_false (by omega)]
      rfl
    ·
      refine mw_iconst C (v := nI 1) d_Mo_isFull_27 (by decide) ?_
      refine mw_goto C 32 d_Mo_isFull_28 (by decide) ?_
      refine mw_zret C hR d_Mo_isFull_32 (by decide) ?_
      unfold a_full
      rw [decide_eq_true (p := 3 ≤ _) (by omega), Bool.or_true]
      rfl
def a_wave (cn : Int32) (σ : aS) (node : Nat) : aS := if 0 < σ.1 14 node ∧ σ.1 14 node % 4 = 0 then a_done cn σ node (σ.1 14 node / 4) else σ
def a_step (cn : Int32) (fy : Nat) (σ : aS) (node : Nat) : aS := a_mkV fy (a_up (a_wave cn σ node) 14 node (σ.1 14 node + 1)) node (σ.1 14 node + 1)
def a_goL (cn : Int32) (fy node : Nat) : Nat → aS → aS
  | 0, σ => σ
  | k + 1, σ => if σ.1 14 node < 12 ∧ a_full σ node = true then a_goL cn fy node k (a_step cn fy σ node) else σ
def a_goE (cn : Int32) (σ : aS) (node : Nat) : aS := if σ.1 14 node = 12 ∧ σ.1 15 node = 0 ∧ a_full σ node = true then a_done cn (a_up σ 15 node 1) node 3 else σ
def a_goOn (cn : Int32) (fy : Nat) (σ : aS) (node : Nat) : aS := a_goE cn (a_goL cn fy node 12 σ) node
theorem a_wave_kp (cn : Int32) (σ : aS) (node : Nat) : a_kp a_F σ (a_wave cn σ node) := by
  unfold a_wave
  split
  · exact a_done_kp _ _ _ _
  · exact a_kp_r _ _
theorem aI_wave {fy B : Nat} {σ : aS} (hI : aI fy B σ) (cn : Int32) {node : Nat} (hn : node < 4) : aI fy B (a_wave cn σ node) := by
  unfold a_wave
  have ho := hI.ow node
  split
  · exact aI_done hI cn hn (by omega)
  · exact hI
theorem a_mkV_14 (fy : Nat) (σ : aS) (node r j : Nat) : (a_mkV fy σ node r).1 14 j = σ.1 14 j := by
  unfold a_mkV
  rw [(a_cast_kp _ _ _ _ _ 4).1.1 14 j (by unfold a_S; decide)]
  exact (a_first_kp σ node).1 14 j (by decide)
theorem a_step_14 (cn : Int32) (fy : Nat) (σ : aS) (node : Nat) : (a_step cn fy σ node).1 14 node = σ.1 14 node + 1 := by
  unfold a_step
  rw [a_mkV_14, a_up_s]
theorem aI_pre {fy B : Nat} {σ : aS} (hI : aI fy B σ) (cn : Int32) {node : Nat} (hn : node < 4) (ho : σ.1 14 node < 12) : 4 ≤ B ∧ aI fy (B - 4) (a_up (a_wave cn σ node) 14 node (σ.1 14 node + 1)) ∧ (a_up (a_wave cn σ node) 14 node (σ.1 14 node + 1)).1 0 5 + 1 ≤ a_own (a_up (a_wave cn σ node) 14 node (σ.1 14 node + 1)) + (a_up (a_wave cn σ node) 14 node (σ.1 14 node + 1)).1 0 10 := by
  have e := (a_wave_kp cn σ node).1 14 node (by unfold a_F; decide)
  have h := aI_own (aI_wave hI cn hn) hn (by rw [e]; exact ho)
  rw [e] at h
  exact h
theorem aI_step {fy B : Nat} {σ : aS} (hI : aI fy B σ) (cn : Int32) {node : Nat} (hn : node < 4) (ho : σ.1 14 node < 12) : aI fy B (a_step cn fy σ node) := by
  obtain ⟨h4, h1, h2⟩ := aI_pre hI cn hn ho
  have := aI_mkV h1 (r := σ.1 14 node + 1) hn (by omega) (by omega) h2
  rw [show B - 4 + 4 = B from by omega] at this
  exact this
theorem aI_goL {fy B : Nat} (cn : Int32) {node : Nat} (hn : node < 4) : ∀ (k : Nat) {σ : aS}, aI fy B σ → aI fy B (a_goL cn fy node k σ)
  | 0, _, hI => hI
  | k + 1, _, hI => by
    unfold a_goL
    split
    · rename_i hc
      exact aI_goL cn hn k (aI_step hI cn hn hc.1)
    · exact hI
theorem aI_15 {fy B : Nat} {σ : aS} (h : aI fy B σ) (j : Nat) : aI fy B (a_up σ 15 j 1) := (aI_mk (h.pl) (h.st) (h.tr) (h.qu) (h.f6) (h.f7) (h.f9) (h.f10) (fun n => by
    rw [a_up_at]
    split
    · exact Nat.le_refl _
    · exact h.f15 n) (h.ac) (h.vo) (h.bl) (h.ow) (h.cm) (h.oc) (h.qd) (h.be) (h.fo) (h.vs) (h.mm) (h.wt))
theorem aI_goOn {fy B : Nat} {σ : aS} (hI : aI fy B σ) (cn : Int32) {node : Nat} (hn : node < 4) : aI fy B (a_goOn cn fy σ node) := by
  unfold a_goOn a_goE
  split
  · exact aI_done (aI_15 (aI_goL cn hn 12 hI) _) cn hn (by decide)
  · exact aI_goL cn hn 12 hI
/-- more turns than there are rounds left change nothing -/
theorem a_goL_ge (cn : Int32) (fy node : Nat) : ∀ (k k' : Nat) (σ : aS), 12 ≤ k + σ.1 14 node → 12 ≤ k' + σ.1 14 node → a_goL cn fy node k σ = a_goL cn fy node k' σ
  | 0, 0, σ, _, _ => rfl
  | 0, k' + 1, σ, h, _ => by
    rw [a_goL, a_goL, if_neg (fun hh => by omega)]
  | k + 1, 0, σ, _, h => by
    rw [a_goL, a_goL, if_neg (fun hh => by omega)]
  | k + 1, k' + 1, σ, h, h' => by
    rw [a_goL, a_goL]
    split
    · exact a_goL_ge cn fy node k k' _ (by rw [a_step_14]; omega) (by rw [a_step_14]; omega)
    · rfl
set_option maxHeartbeats 4000000 in
set_option maxRecDepth 100000 in
theorem m_Mo_goesOn (l : Launch) (D : va_G) (cA : Nat → ClassId) (cn fv : Int32) (σ : aS) (fy B node : Nat) (S : mw_S) (h : mR cn fv σ S) (hfy : fyR fv fy) (hI : aI fy B σ) (hn : node < 4) (hB : B ≤ 2400) : mw_M true l lw_tbl y_Mo_goesOn b_Mo_goesOn 3 none { frames := 5, cells := 0, slots := 0, locals := 119 } D vCl cA sh_Mo 22 [.inr (.inr 0), .inl (nI node)] (S) (mw_Pv (fun S' => mR cn fv (a_goOn cn fy σ node) S')) := by
  refine mw_M_of (by decide) (Nat.le_of_ble_eq_true rfl) ?_
  intro p e s m args below meth c A ad C hR
  have E : ∀ (τ : aS) (S1 : mw_S), mR cn fv τ S1 → aI fy B τ → a_goE cn τ node = a_goOn cn fy σ node → mw p l e { frames := 5, cells := 0, slots := 0, locals := 119 } s m args below meth c (MQ below (mw_Qc true D vCl cA ad sh_Mo 22 s.heap.size (S) (mw_Pv (fun S' => mR cn fv (a_goOn cn fy σ node) S'))) args s 0 0 A) 0 0 D vCl cA A ad sh_Mo 22 3 (68) ([(0, .inr (.inr 0)), (1, .inl (nI node))]) ([]) (S1) := by
    intro τ S1 h hI he
    have ho := hI.ow node
    have h15 := hI.f15 node
    refine mw_aload_n C 0 d_Mo_goesOn_68 rfl rfl ?_
    refine mw_getr C f_Mo_51 d_Mo_goesOn_69 (by decide) rfl rfl ?_
    refine mw_iload_n C 1 d_Mo_goesOn_72 rfl rfl ?_
    refine mo_ald C h d_Mo_goesOn_73 (by decide) rfl rfl (by omega) (by decide) ?_
    refine mw_bipush C (v := nI 12) d_Mo_goesOn_74 (by decide) ?_
    refine mw_icmp_neN C 109 d_Mo_goesOn_76 (by decide) (by omega) (by omega) (fun h76 => ?_) (fun h76 => ?_)
    ·
      refine mw_vret C hR d_Mo_goesOn_109 ?_
      rw [← he, a_goE, if_neg (fun hh => h76 hh.1)]
      exact h
    ·
      refine mw_aload_n C 0 d_Mo_goesOn_79 rfl rfl ?_
      refine mw_getr C f_Mo_54 d_Mo_goesOn_80 (by decide) rfl rfl ?_
      refine mw_iload_n C 1 d_Mo_goesOn_83 rfl rfl ?_
      refine mo_zald C h d_Mo_goesOn_84 (by decide) rfl rfl (by omega) (by decide) ?_
      refine mw_if_neN C 109 d_Mo_goesOn_85 (by decide) (by omega) (fun h85 => ?_) (fun h85 => ?_)
      ·
        refine mw_vret C hR d_Mo_goesOn_109 ?_
        rw [← he, a_goE, if_neg (fun hh => by omega)]
        exact h
      ·
        refine mw_aload_n C 0 d_Mo_goesOn_88 rfl rfl ?_
        refine mw_iload_n C 1 d_Mo_goesOn_89 rfl rfl ?_
        refine mw_run0i C ix_Mo (mw_invV C (kk := 0) (m_Mo_isFull l D cA cn fv τ fy B node _ (mR_rs h) hI hn) ix_Mo kb_Mo_179 wm_Mo_isFull wv_Mo_isFull (by decide) rfl rfl d_Mo_goesOn_90 rfl rfl (Nat.le_of_ble_eq_true rfl) rfl rfl ⟨by decide, by decide⟩ ⟨Nat.zero_le _, Nat.zero_le _⟩) (fun x90 e90 => ?_)
        subst e90
        by_cases hf : a_full τ node = true
        ·
          rw [hf]
          refine mw_eqi (show _ = nI 1 from rfl) ?_
          refine mw_if_eqN C 109 d_Mo_goesOn_93 (by decide) (by omega) (fun h93 => ?_) (fun h93 => ?_)
          · exfalso; omega
          ·
            refine mw_aload_n C 0 d_Mo_goesOn_96 rfl rfl ?_
            refine mw_getr C f_Mo_54 d_Mo_goesOn_97 (by decide) rfl rfl ?_
            refine mw_iload_n C 1 d_Mo_goesOn_100 rfl rfl ?_
            refine mw_iconst C (v := nI 1) d_Mo_goesOn_101 (by decide) ?_
            refine mo_zast C rfl h d_Mo_goesOn_102 (by decide) rfl rfl (by omega) (by decide) (by decide) (fun S h => ?_)
            refine mw_aload_n C 0 d_Mo_goesOn_103 rfl rfl ?_
            refine mw_iload_n C 1 d_Mo_goesOn_104 rfl rfl ?_
            refine mw_iconst C (v := nI 3) d_Mo_goesOn_105 (by decide) ?_
            refine mo_runv C rfl (mw_invV C (kk := 0) (m_Mo_done l D cA cn fv _ fy B node 3 _ (mR_rs h) (aI_15 hI node) hn (by decide) (by decide)) ix_Mo kb_Mo_182 wm_Mo_done wv_Mo_done (by decide) rfl rfl d_Mo_goesOn_106 rfl rfl (Nat.le_of_ble_eq_true rfl) rfl rfl ⟨by decide, by decide⟩ ⟨Nat.zero_le _, Nat.zero_le _⟩) (fun S h => ?_)
            refine mw_vret C hR d_Mo_goesOn_109 ?_
            rw [← he, a_goE, if_pos ⟨h76, h85, hf⟩]
            exact h
        ·
          rw [eq_false_of_ne_true hf]
          refine mw_eqi (show _ = nI 0 from rfl) ?_
          refine mw_if_eqN C 109 d_Mo_goesOn_93 (by decide) (by omega) (fun h93 => ?_) (fun h93 => ?_)
          ·
            refine mw_vret C hR d_Mo_goesOn_109 ?_
            rw [← he, a_goE, if_neg (fun hh => hf hh.2.2)]
            exact h
          · exfalso; omega
  have L : ∀ (d : Nat) (τ : aS) (S1 : mw_S), 12 ≤ d + τ.1 14 node → mR cn fv τ S1 → aI fy B τ → a_goE cn (a_goL cn fy node d τ) node = a_goOn cn fy σ node → mw p l e { frames := 5, cells := 0, slots := 0, locals := 119 } s m args below meth c (MQ below (mw_Qc true D vCl cA ad sh_Mo 22 s.heap.size (S) (mw_Pv (fun S' => mR cn fv (a_goOn cn fy σ node) S'))) args s 0 0 A) 0 0 D vCl cA A ad sh_Mo 22 3 (0) ([(0, .inr (.inr 0)), (1, .inl (nI node))]) ([]) (S1) := by
    intro d
    induction d with
    | zero =>
      intro τ S1 hd h hI he
      have ho := hI.ow node
      refine mw_aload_n C 0 d_Mo_goesOn_0 rfl rfl ?_
      refine mw_getr C f_Mo_51 d_Mo_goesOn_1 (by decide) rfl rfl ?_
      refine mw_iload_n C 1 d_Mo_goesOn_4 rfl rfl ?_
      refine mo_ald C h d_Mo_goesOn_5 (by decide) rfl rfl (by omega) (by decide) ?_
      refine mw_bipush C (v := nI 12) d_Mo_goesOn_6 (by decide) ?_
      refine mw_icmp_geN C 68 d_Mo_goesOn_8 (by decide) (by omega) (by omega) (fun h8 => ?_) (fun h8 => ?_)
      ·
        exact mw_to _ (by exact And.intro rfl (And.intro rfl (trivial))) (E τ S1 h hI he)
      · exfalso; omega
    | succ d ih =>
      intro τ S1 hd h hI he
      have ho := hI.ow node
      refine mw_aload_n C 0 d_Mo_goesOn_0 rfl rfl ?_
      refine mw_getr C f_Mo_51 d_Mo_goesOn_1 (by decide) rfl rfl ?_
      refine mw_iload_n C 1 d_Mo_goesOn_4 rfl rfl ?_
      refine mo_ald C h d_Mo_goesOn_5 (by decide) rfl rfl (by omega) (by decide) ?_
      refine mw_bipush C (v := nI 12) d_Mo_goesOn_6 (by decide) ?_
      refine mw_icmp_geN C 68 d_Mo_goesOn_8 (by decide) (by omega) (by omega) (fun h8 => ?_) (fun h8 => ?_)
      ·
        refine mw_to _ (by exact And.intro rfl (And.intro rfl (trivial))) (E τ S1 h hI ?_)
        rw [← he, a_goL, if_neg (fun hh => by omega)]
      ·
        refine mw_aload_n C 0 d_Mo_goesOn_11 rfl rfl ?_
        refine mw_iload_n C 1 d_Mo_goesOn_12 rfl rfl ?_
        refine mw_run0i C ix_Mo (mw_invV C (kk := 0) (m_Mo_isFull l D cA cn fv τ fy B node _ (mR_rs h) hI hn) ix_Mo kb_Mo_179 wm_Mo_isFull wv_Mo_isFull (by decide) rfl rfl d_Mo_goesOn_13 rfl rfl (Nat.le_of_ble_eq_true rfl) rfl rfl ⟨by decide, by decide⟩ ⟨Nat.zero_le _, Nat.zero_le _⟩) (fun x13 e13 => ?_)
        subst e13
        by_cases hf : a_full τ node = true
        ·
          rw [hf]
          refine mw_eqi (show _ = nI 1 from rfl) ?_
          refine mw_if_eqN C 68 d_Mo_goesOn_16 (by decide) (by omega) (fun h16 => ?_) (fun h16 => ?_)
          · exfalso; omega
          ·
            obtain ⟨h4, hI1, hv1⟩ := aI_pre hI cn hn (by omega)
            have e14 := (a_wave_kp cn τ node).1 14 node (by unfold a_F; decide)
            have M : ∀ S2 : mw_S, mR cn fv (a_wave cn τ node) S2 → mw p l e { frames := 5, cells := 0, slots := 0, locals := 119 } s m args below meth c (MQ below (mw_Qc true D vCl cA ad sh_Mo 22 s.heap.size (S) (mw_Pv (fun S' => mR cn fv (a_goOn cn fy σ node) S'))) args s 0 0 A) 0 0 D vCl cA A ad sh_Mo 22 3 (44) ([(0, .inr (.inr 0)), (1, .inl (nI node))]) ([]) (S2) := by
              intro S2 h
              refine mw_aload_n C 0 d_Mo_goesOn_44 rfl rfl ?_
              refine mw_getr C f_Mo_51 d_Mo_goesOn_45 (by decide) rfl rfl ?_
              refine mw_iload_n C 1 d_Mo_goesOn_48 rfl rfl ?_
              refine mw_dup2_11 C d_Mo_goesOn_49 rfl rfl ?_
              refine mo_ald C h d_Mo_goesOn_50 (by decide) rfl rfl (by omega) (by decide) ?_
              refine mw_eqi (show _ = nI (τ.1 14 node) from by rw [e14]) ?_
              refine mw_iconst C (v := nI 1) d_Mo_goesOn_51 (by decide) ?_
              refine mw_iaddN C d_Mo_goesOn_52 ?_
              refine mo_ast C rfl h d_Mo_goesOn_53 (by decide) rfl rfl (by omega) (by decide) (fun S h => ?_)
              refine mw_aload_n C 0 d_Mo_goesOn_54 rfl rfl ?_
              refine mw_iload_n C 1 d_Mo_goesOn_55 rfl rfl ?_
              refine mw_aload_n C 0 d_Mo_goesOn_56 rfl rfl ?_
              refine mw_getr C f_Mo_51 d_Mo_goesOn_57 (by decide) rfl rfl ?_
              refine mw_iload_n C 1 d_Mo_goesOn_60 rfl rfl ?_
              refine mo_ald C h d_Mo_goesOn_61 (by decide) rfl rfl (by omega) (by decide) ?_
              refine mw_eqi (show _ = nI (τ.1 14 node + 1) from by rw [a_up_s]) ?_
              refine mo_runv C rfl (mw_invV C (kk := 0) (m_Mo_makeVertex l D cA cn fv _ fy (B - 4) node (τ.1 14 node + 1) _ (mR_rs h) hfy hI1 hn (by omega) (by omega) hv1 (by omega)) ix_Mo kb_Mo_185 wm_Mo_makeVertex wv_Mo_makeVertex (by decide) rfl rfl d_Mo_goesOn_62 rfl rfl (Nat.le_of_ble_eq_true rfl) rfl rfl ⟨by decide, by decide⟩ ⟨Nat.zero_le _, Nat.zero_le _⟩) (fun S h => ?_)
              refine mw_goto C 0 d_Mo_goesOn_65 (by decide) ?_
              refine mw_to _ (by exact And.intro rfl (And.intro rfl (trivial))) (ih _ S ?_ h (aI_step hI cn hn (by omega)) ?_)
              · have := a_step_14 cn fy τ node
                unfold a_step at this
                rw [this]
                omega
              · rw [← he, a_goL, if_pos ⟨by omega, hf⟩]
                rfl
            refine mw_aload_n C 0 d_Mo_goesOn_19 rfl rfl ?_
            refine mw_getr C f_Mo_51 d_Mo_goesOn_20 (by decide) rfl rfl ?_
            refine mw_iload_n C 1 d_Mo_goesOn_23 rfl rfl ?_
            refine mo_ald C h d_Mo_goesOn_24 (by decide) rfl rfl (by omega) (by decide) ?_
            refine mw_istore_n C 2 d_Mo_goesOn_25 rfl (by decide) ?_
            refine mw_iload_n C 2 d_Mo_goesOn_26 rfl rfl ?_
            refine mw_if_leN C 44 d_Mo_goesOn_27 (by decide) (by omega) (fun h27 => ?_) (fun h27 => ?_)
            ·
              refine mw_to _ (by exact And.intro rfl (And.intro rfl (trivial))) (M _ ?_)
              rw [a_wave, if_neg (fun hh => by omega)]
              exact h
            ·
              refine mw_iload_n C 2 d_Mo_goesOn_30 rfl rfl ?_
              refine mw_iconst C (v := nI 4) d_Mo_goesOn_31 (by decide) ?_
              refine mw_iremN C d_Mo_goesOn_32 (by omega) (by decide) (by decide) ?_
              refine mw_if_neN C 44 d_Mo_goesOn_33 (by decide) (by omega) (fun h33 => ?_) (fun h33 => ?_)
              ·
                refine mw_to _ (by exact And.intro rfl (And.intro rfl (trivial))) (M _ ?_)
                rw [a_wave, if_neg (fun hh => by omega)]
                exact h
              ·
                refine mw_aload_n C 0 d_Mo_goesOn_36 rfl rfl ?_
                refine mw_iload_n C 1 d_Mo_goesOn_37 rfl rfl ?_
                refine mw_iload_n C 2 d_Mo_goesOn_38 rfl rfl ?_
                refine mw_iconst C (v := nI 4) d_Mo_goesOn_39 (by decide) ?_
                refine mw_idivN C d_Mo_goesOn_40 (by omega) (by decide) (by decide) ?_
                refine mo_runv C rfl (mw_invV C (kk := 0) (m_Mo_done l D cA cn fv τ fy B node (τ.1 14 node / 4) _ (mR_rs h) hI hn (by omega) (by omega)) ix_Mo kb_Mo_182 wm_Mo_done wv_Mo_done (by decide) rfl rfl d_Mo_goesOn_41 rfl rfl (Nat.le_of_ble_eq_true rfl) rfl rfl ⟨by decide, by decide⟩ ⟨Nat.zero_le _, Nat.zero_le _⟩) (fun S h => ?_)
                refine mw_to _ (by exact And.intro rfl (And.intro rfl (trivial))) (M _ ?_)
                rw [a_wave, if_pos ⟨by omega, h33⟩]
                exact h
        ·
          rw [eq_false_of_ne_true hf]
          refine mw_eqi (show _ = nI 0 from rfl) ?_
          refine mw_if_eqN C 68 d_Mo_goesOn_16 (by decide) (by omega) (fun h16 => ?_) (fun h16 => ?_)
          ·
            refine mw_to _ (by exact And.intro rfl (And.intro rfl (trivial))) (E τ S1 h hI ?_)
            rw [← he, a_goL, if_neg (fun hh => hf hh.2)]
          · exfalso; omega
  exact mw_to _ (by exact And.intro rfl (And.intro rfl (trivial))) (L 12 σ S (by omega) h hI rfl)
