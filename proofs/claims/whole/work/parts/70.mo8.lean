/-! a message comes -/
def a_shW (k : Nat) : Nat → aS → aS
  | 0, σ => σ
  | n + 1, σ => a_up (a_shW k n σ) 5 (k + n) ((a_shW k n σ).1 5 (k + n + 1))
def a_take (σ : aS) (k : Nat) : aS := a_shW k (σ.1 0 12 - 1 - k) (a_up σ 0 12 (σ.1 0 12 - 1))
theorem a_shW_kp (k : Nat) (σ : aS) : ∀ n, a_kp (fun f => f = 5) σ (a_shW k n σ)
  | 0 => a_kp_r _ _
  | n + 1 => a_kp_t (a_shW_kp k σ n) (a_kp_u (fs := fun f => f = 5) (f := 5) rfl _ _ _)
theorem a_shW_5 (k : Nat) (σ : aS) : ∀ n i, (a_shW k n σ).1 5 i = if k ≤ i ∧ i < k + n then σ.1 5 (i + 1) else σ.1 5 i
  | 0, i => by rw [if_neg (by omega)]; rfl
  | n + 1, i => by
    rw [a_shW, a_up_at, a_shW_5 k σ n i, a_shW_5 k σ n (k + n + 1)]
    by_cases e : i = k + n
    · subst e
      rw [if_pos ⟨rfl, rfl⟩, if_neg (by omega), if_pos (by omega)]
    · rw [if_neg (fun h => e h.2)]
      by_cases h : k ≤ i ∧ i < k + n
      · rw [if_pos h, if_pos (by omega)]
      · rw [if_neg h, if_neg (by omega)]
theorem aI_take {fy B : Nat} {σ : aS} (hI : aI fy B σ) {k : Nat} (hk : k < σ.1 0 12) : aI fy B (a_take σ k) := by
  have kp := a_shW_kp k (a_up σ 0 12 (σ.1 0 12 - 1)) (σ.1 0 12 - 1 - k)
  have K : ∀ f j, f ≠ 5 → f ≠ 0 → (a_take σ k).1 f j = σ.1 f j := fun f j h5 h0 => by
    unfold a_take
    rw [kp.1 f j h5, a_up_f _ _ _ _ h0]
  have K0 : ∀ j, j ≠ 12 → (a_take σ k).1 0 j = σ.1 0 j := fun j hj => by
    unfold a_take
    rw [kp.1 0 j (by decide), a_up_j _ _ _ _ hj]
  have Km : (a_take σ k).1 0 12 = σ.1 0 12 - 1 := by
    unfold a_take
    rw [kp.1 0 12 (by decide), a_up_s]
  have K5 : ∀ i, (a_take σ k).1 5 i = if k ≤ i ∧ i < k + (σ.1 0 12 - 1 - k) then σ.1 5 (i + 1) else σ.1 5 i := fun i => by
    unfold a_take
    rw [a_shW_5, a_up_f _ _ _ _ (by decide), a_up_f _ _ _ _ (by decide)]
  generalize a_take σ k = τ at *
  have k14 := fun j => K 14 j (by decide) (by decide)
  have e6 : τ.1 6 = σ.1 6 := funext (fun j => K 6 j (by decide) (by decide))
  have e7 : τ.1 7 = σ.1 7 := funext (fun j => K 7 j (by decide) (by decide))
  have e10 : τ.1 10 = σ.1 10 := funext (fun j => K 10 j (by decide) (by decide))
  have eo : a_own τ = a_own σ := by unfold a_own; rw [k14, k14, k14, k14]
  have K8 := fun j => K 8 j (by decide) (by decide)
  have K1 := fun j => K 1 j (by decide) (by decide)
  have K18 := fun j => K 18 j (by decide) (by decide)
  have k5 := K0 5 (by decide)
  exact (aI_mk (fun v => by rw [K1]; exact hI.pl v) (fun v => by rw [K 2 v (by decide) (by decide)]; exact hI.st v) (fun v => by rw [K 4 v (by decide) (by decide)]; exact hI.tr v) (fun v => by rw [K 19 v (by decide) (by decide)]; exact hI.qu v) (fun v => by rw [e6]; exact hI.f6 v) (fun v => by rw [e7]; exact hI.f7 v) (fun v => by rw [K 9 v (by decide) (by decide)]; exact hI.f9 v) (fun v => by rw [e10]; exact hI.f10 v) (fun v => by rw [K 15 v (by decide) (by decide)]; exact hI.f15 v) (fun n q hn hq => by rw [K8, k5, K1]; exact hI.ac n q hn hq) (fun v => by rw [K 12 v (by decide) (by decide), K 13 v (by decide) (by decide)]; exact hI.vo v) (fun n hn => by rw [K18, K18, K18, K18]; exact hI.bl n hn) (fun v => by rw [k14]; exact hI.ow v) (fun v => by rw [K 16 v (by decide) (by decide)]; exact hI.cm v) (fun n hn => by rw [e10, K 17 n (by decide) (by decide)]; exact hI.oc n hn) (fun v => by rw [K 20 v (by decide) (by decide)]; exact hI.qd v) (by rw [K0 4 (by decide)]; exact hI.be) (by rw [K0 10 (by decide)]; exact hI.fo) (by rw [k5, K0 10 (by decide), eo]; exact hI.vs) (by rw [Km, e6, e7, eo]; have := hI.mm; omega) (fun i hi => by
    rw [Km] at hi
    rw [k5, K5]
    split
    · exact hI.wt (i + 1) (by omega)
    · exact hI.wt i (by omega)))
def a_gets (fy : Nat) (σ : aS) (m : Nat) : aS := if m / 1280 = 0 then a_sendC fy σ (m / 320 % 4) (m / 80 % 4) (m % 80) (48 * (m / 80 % 4) + σ.1 1 (m % 80)) else if m / 1280 = 1 then a_echoC fy σ (m / 320 % 4) (m / 80 % 4) (m % 80) (48 * (m / 80 % 4) + σ.1 1 (m % 80)) else a_readyC fy σ (m / 320 % 4) (m / 80 % 4) (m % 80) (48 * (m / 80 % 4) + σ.1 1 (m % 80))
def a_then (cn : Int32) (fy : Nat) (σ : aS) (to : Nat) : aS := if σ.1 0 4 = 0 then σ else a_goOn cn fy σ to
def a_comes (cn : Int32) (fy : Nat) (σ : aS) (k : Nat) : aS := a_then cn fy (a_gets fy (a_take σ k) (σ.1 5 k)) (σ.1 5 k / 80 % 4)
theorem aI_gets {fy B : Nat} {σ : aS} (hI : aI fy B σ) {m : Nat} (h1 : 1 ≤ m % 80) (h2 : m % 80 ≤ σ.1 0 5) : aI fy B (a_gets fy σ m) := by
  have hp := hI.pl (m % 80)
  unfold a_gets
  split
  · exact aI_sendC hI _ (Nat.mod_lt _ (by decide)) (by omega) h1 h2
  · split
    · exact aI_echoC hI _ (Nat.mod_lt _ (by decide)) (by omega) h1 h2
    · exact aI_readyC hI _ (Nat.mod_lt _ (by decide)) rfl h1 h2
theorem aI_then {fy B : Nat} {σ : aS} (hI : aI fy B σ) (cn : Int32) {to : Nat} (ht : to < 4) : aI fy B (a_then cn fy σ to) := by
  unfold a_then
  split
  · exact hI
  · exact aI_goOn hI cn ht
theorem a_take_0 (σ : aS) (k j : Nat) (hj : j ≠ 12) : (a_take σ k).1 0 j = σ.1 0 j := by
  unfold a_take
  rw [(a_shW_kp k _ _).1 0 j (by decide), a_up_j _ _ _ _ hj]
theorem aI_comes {fy B : Nat} {σ : aS} (hI : aI fy B σ) (cn : Int32) {k : Nat} (hk : k < σ.1 0 12) : aI fy B (a_comes cn fy σ k) := by
  have hw := hI.wt k hk
  exact aI_then (aI_gets (aI_take hI hk) hw.2.1 (by rw [a_take_0 _ _ _ (by decide)]; exact hw.2.2.1)) cn (Nat.mod_lt _ (by decide))
set_option maxHeartbeats 4000000 in
set_option maxRecDepth 100000 in
theorem m_Mo_comes (l : Launch) (D : va_G) (cA : Nat → ClassId) (cn fv : Int32) (σ : aS) (fy B k : Nat) (S : mw_S) (h : mR cn fv σ S) (hfy : fyR fv fy) (hI : aI fy B σ) (hk : k < σ.1 0 12) (hB : B + 4 ≤ 2400) : mw_M true l lw_tbl y_Mo_comes b_Mo_comes 8 none { frames := 6, cells := 0, slots := 0, locals := 141 } D vCl cA sh_Mo 22 [.inr (.inr 0), .inl (nI k)] (S) (mw_Pv (fun S' => mR cn fv (a_comes cn fy σ k) S')) := by
  refine mw_M_of (by decide) (Nat.le_of_ble_eq_true rfl) ?_
  intro p e s m args below meth c A ad C hR
  have hm := hI.m
  have hw := hI.wt k hk
  have hI2 := aI_take hI hk
  have hw5 : σ.1 5 k % 80 ≤ (a_take σ k).1 0 5 := by rw [a_take_0 _ _ _ (by decide)]; exact hw.2.2.1
  have hI3 := aI_gets hI2 hw.2.1 hw5
  have hpl := hI2.pl (σ.1 5 k % 80)
  have E : ∀ S1 : mw_S, mR cn fv (a_gets fy (a_take σ k) (σ.1 5 k)) S1 → mw p l e { frames := 6, cells := 0, slots := 0, locals := 141 } s m args below meth c (MQ below (mw_Qc true D vCl cA ad sh_Mo 22 s.heap.size (S) (mw_Pv (fun S' => mR cn fv (a_comes cn fy σ k) S'))) args s 0 0 A) 0 0 D vCl cA A ad sh_Mo 22 8 (140) ([(4, .inl (nI (σ.1 5 k / 80 % 4))), (0, .inr (.inr 0))]) ([]) (S1) := by
    intro S1 h
    have hb := hI3.be
    refine mw_aload_n C 0 d_Mo_comes_140 rfl rfl ?_
    refine mo_get C h f_Mo_112 d_Mo_comes_141 rfl rfl ?_
    refine mw_if_eqN C 153 d_Mo_comes_144 (by decide) (by omega) (fun h144 => ?_) (fun h144 => ?_)
    ·
      refine mw_vret C hR d_Mo_comes_153 ?_
      unfold a_comes a_then
      rw [if_pos h144]
      exact h
    ·
      refine mw_aload_n C 0 d_Mo_comes_147 rfl rfl ?_
      refine mw_iload C d_Mo_comes_148 rfl ?_
      refine mo_runv C rfl (mw_invV C (kk := 0) (m_Mo_goesOn l D cA cn fv _ fy B (σ.1 5 k / 80 % 4) _ (mR_rs h) hfy hI3 (Nat.mod_lt _ (by decide)) (by omega)) ix_Mo kb_Mo_116 wm_Mo_goesOn wv_Mo_goesOn (by decide) rfl rfl d_Mo_comes_150 rfl rfl (Nat.le_of_ble_eq_true rfl) rfl rfl ⟨by decide, by decide⟩ ⟨Nat.zero_le _, Nat.zero_le _⟩) (fun S h => ?_)
      refine mw_vret C hR d_Mo_comes_153 ?_
      unfold a_comes a_then
      rw [if_neg (by omega)]
      exact h
  have M : ∀ S1 : mw_S, mR cn fv (a_take σ k) S1 → mw p l e { frames := 6, cells := 0, slots := 0, locals := 141 } s m args below meth c (MQ below (mw_Qc true D vCl cA ad sh_Mo 22 s.heap.size (S) (mw_Pv (fun S' => mR cn fv (a_comes cn fy σ k) S'))) args s 0 0 A) 0 0 D vCl cA A ad sh_Mo 22 8 (47) ([(2, .inl (nI (σ.1 5 k))), (0, .inr (.inr 0)), (1, .inl (nI k))]) ([]) (S1) := by
    intro S1 h
    have hm2 := hI2.m
    have hp8 : (48 * (σ.1 5 k / 80 % 4) + (a_take σ k).1 1 (σ.1 5 k % 80)) < 192 := by omega
    have h80 := hI2.v72
    refine mw_iload_n C 2 d_Mo_comes_47 rfl rfl ?_
    refine mw_bipush C (v := nI 80) d_Mo_comes_48 (by decide) ?_
    refine mw_iremN C d_Mo_comes_50 (by omega) (by decide) (by decide) ?_
    refine mw_istore_n C 3 d_Mo_comes_51 rfl (by decide) ?_
    refine mw_iload_n C 2 d_Mo_comes_52 rfl rfl ?_
    refine mw_bipush C (v := nI 80) d_Mo_comes_53 (by decide) ?_
    refine mw_idivN C d_Mo_comes_55 (by omega) (by decide) (by decide) ?_
    refine mw_iconst C (v := nI 4) d_Mo_comes_56 (by decide) ?_
    refine mw_iremN C d_Mo_comes_57 (by omega) (by decide) (by decide) ?_
    refine mw_istore C d_Mo_comes_58 (by decide) ?_
    refine mw_iload_n C 2 d_Mo_comes_60 rfl rfl ?_
    refine mw_sipush C (v := nI 320) d_Mo_comes_61 (by decide) ?_
    refine mw_idivN C d_Mo_comes_64 (by omega) (by decide) (by decide) ?_
    refine mw_iconst C (v := nI 4) d_Mo_comes_65 (by decide) ?_
    refine mw_iremN C d_Mo_comes_66 (by omega) (by decide) (by decide) ?_
    refine mw_istore C d_Mo_comes_67 (by decide) ?_
    refine mw_iload_n C 2 d_Mo_comes_69 rfl rfl ?_
    refine mw_sipush C (v := nI 1280) d_Mo_comes_70 (by decide) ?_
    refine mw_idivN C d_Mo_comes_73 (by omega) (by decide) (by decide) ?_
    refine mw_istore C d_Mo_comes_74 (by decide) ?_
    refine mw_bipush C (v := nI 48) d_Mo_comes_76 (by decide) ?_
    refine mw_iload C d_Mo_comes_78 rfl ?_
    refine mw_imulN C d_Mo_comes_80 ?_
    refine mw_aload_n C 0 d_Mo_comes_81 rfl rfl ?_
    refine mw_getr C f_Mo_7 d_Mo_comes_82 (by decide) rfl rfl ?_
    refine mw_iload_n C 3 d_Mo_comes_85 rfl rfl ?_
    refine mo_ald C h d_Mo_comes_86 (by decide) rfl rfl (by omega) (by decide) ?_
    refine mw_iaddN C d_Mo_comes_87 ?_
    refine mw_istore C d_Mo_comes_88 (by decide) ?_
    refine mw_iload C d_Mo_comes_90 rfl ?_
    refine mw_if_neN C 109 d_Mo_comes_92 (by decide) (by omega) (fun h92 => ?_) (fun h92 => ?_)
    ·
      refine mw_iload C d_Mo_comes_109 rfl ?_
      refine mw_iconst C (v := nI 1) d_Mo_comes_111 (by decide) ?_
      refine mw_icmp_neN C 129 d_Mo_comes_112 (by decide) (by omega) (by omega) (fun h112 => ?_) (fun h112 => ?_)
      ·
        refine mw_aload_n C 0 d_Mo_comes_129 rfl rfl ?_
        refine mw_iload C d_Mo_comes_130 rfl ?_
        refine mw_iload C d_Mo_comes_132 rfl ?_
        refine mw_iload_n C 3 d_Mo_comes_134 rfl rfl ?_
        refine mw_iload C d_Mo_comes_135 rfl ?_
        refine mo_runv C rfl (mw_invV C (kk := 0) (m_Mo_readyComes l D cA cn fv _ fy B (σ.1 5 k / 320 % 4) (σ.1 5 k / 80 % 4) (σ.1 5 k % 80) _ _ (mR_rs h) hfy hI2 (Nat.mod_lt _ (by decide)) (Nat.mod_lt _ (by decide)) rfl hw.2.1 hw5 hB) ix_Mo kb_Mo_109 wm_Mo_readyComes wv_Mo_readyComes (by decide) rfl rfl d_Mo_comes_137 rfl rfl (Nat.le_of_ble_eq_true rfl) rfl rfl ⟨by decide, by decide⟩ ⟨Nat.zero_le _, Nat.zero_le _⟩) (fun S h => ?_)
        refine mw_to _ (by exact And.intro rfl (And.intro rfl (trivial))) (E S ?_)
        unfold a_gets
        rw [if_neg (by omega), if_neg h112]
        exact h
      ·
        refine mw_aload_n C 0 d_Mo_comes_115 rfl rfl ?_
        refine mw_iload C d_Mo_comes_116 rfl ?_
        refine mw_iload C d_Mo_comes_118 rfl ?_
        refine mw_iload_n C 3 d_Mo_comes_120 rfl rfl ?_
        refine mw_iload C d_Mo_comes_121 rfl ?_
        refine mo_runv C rfl (mw_invV C (kk := 0) (m_Mo_echoComes l D cA cn fv _ fy (σ.1 5 k / 320 % 4) (σ.1 5 k / 80 % 4) (σ.1 5 k % 80) _ _ (mR_rs h) hfy (Nat.mod_lt _ (by decide)) (Nat.mod_lt _ (by decide)) (by omega) hp8 (fun j => (hI2.vo j).1) (hI2.f7 _) (by omega)) ix_Mo kb_Mo_106 wm_Mo_echoComes wv_Mo_echoComes (by decide) rfl rfl d_Mo_comes_123 rfl rfl (Nat.le_of_ble_eq_true rfl) rfl rfl ⟨by decide, by decide⟩ ⟨Nat.zero_le _, Nat.zero_le _⟩) (fun S h => ?_)
        refine mw_goto C 140 d_Mo_comes_126 (by decide) ?_
        refine mw_to _ (by exact And.intro rfl (And.intro rfl (trivial))) (E S ?_)
        unfold a_gets
        rw [if_neg (by omega), if_pos h112]
        exact h
    ·
      refine mw_aload_n C 0 d_Mo_comes_95 rfl rfl ?_
      refine mw_iload C d_Mo_comes_96 rfl ?_
      refine mw_iload C d_Mo_comes_98 rfl ?_
      refine mw_iload_n C 3 d_Mo_comes_100 rfl rfl ?_
      refine mw_iload C d_Mo_comes_101 rfl ?_
      refine mo_runv C rfl (mw_invV C (kk := 0) (m_Mo_sendComes l D cA cn fv _ fy (σ.1 5 k / 320 % 4) (σ.1 5 k / 80 % 4) (σ.1 5 k % 80) _ _ (mR_rs h) hfy (Nat.mod_lt _ (by decide)) (Nat.mod_lt _ (by decide)) (by omega) hp8 hpl (hI2.f6 _) (by omega)) ix_Mo kb_Mo_103 wm_Mo_sendComes wv_Mo_sendComes (by decide) rfl rfl d_Mo_comes_103 rfl rfl (Nat.le_of_ble_eq_true rfl) rfl rfl ⟨by decide, by decide⟩ ⟨Nat.zero_le _, Nat.zero_le _⟩) (fun S h => ?_)
      refine mw_goto C 140 d_Mo_comes_106 (by decide) ?_
      refine mw_to _ (by exact And.intro rfl (And.intro rfl (trivial))) (E S ?_)
      unfold a_gets
      rw [if_pos h92]
      exact h
  have L : ∀ (dd n : Nat) (S1 : mw_S), n + dd = σ.1 0 12 - 1 - k → mR cn fv (a_shW k n (a_up σ 0 12 (σ.1 0 12 - 1))) S1 → mw p l e { frames := 6, cells := 0, slots := 0, locals := 141 } s m args below meth c (MQ below (mw_Qc true D vCl cA ad sh_Mo 22 s.heap.size (S) (mw_Pv (fun S' => mR cn fv (a_comes cn fy σ k) S'))) args s 0 0 A) 0 0 D vCl cA A ad sh_Mo 22 8 (19) ([(3, .inl (nI (k + n))), (2, .inl (nI (σ.1 5 k))), (0, .inr (.inr 0)), (1, .inl (nI k))]) ([]) (S1) := by
    intro dd
    induction dd with
    | zero =>
      intro n S1 hn h
      refine mw_iload_n C 3 d_Mo_comes_19 rfl rfl ?_
      refine mw_aload_n C 0 d_Mo_comes_20 rfl rfl ?_
      refine mo_get C h f_Mo_96 d_Mo_comes_21 rfl rfl ?_
      refine mw_eqi (show _ = nI (σ.1 0 12 - 1) from by rw [(a_shW_kp k _ n).1 0 12 (by decide), a_up_s]) ?_
      refine mw_icmp_geN C 47 d_Mo_comes_24 (by decide) (by omega) (by omega) (fun h24 => ?_) (fun h24 => ?_)
      ·
        rw [show n = σ.1 0 12 - 1 - k from by omega] at h
        exact mw_to _ (by exact And.intro rfl (And.intro rfl (And.intro rfl (trivial)))) (M S1 h)
      · exfalso; omega
    | succ dd ih =>
      intro n S1 hn h
      refine mw_iload_n C 3 d_Mo_comes_19 rfl rfl ?_
      refine mw_aload_n C 0 d_Mo_comes_20 rfl rfl ?_
      refine mo_get C h f_Mo_96 d_Mo_comes_21 rfl rfl ?_
      refine mw_eqi (show _ = nI (σ.1 0 12 - 1) from by rw [(a_shW_kp k _ n).1 0 12 (by decide), a_up_s]) ?_
      refine mw_icmp_geN C 47 d_Mo_comes_24 (by decide) (by omega) (by omega) (fun h24 => ?_) (fun h24 => ?_)
      · exfalso; omega
      ·
        refine mw_aload_n C 0 d_Mo_comes_27 rfl rfl ?_
        refine mw_getr C f_Mo_23 d_Mo_comes_28 (by decide) rfl rfl ?_
        refine mw_iload_n C 3 d_Mo_comes_31 rfl rfl ?_
        refine mw_aload_n C 0 d_Mo_comes_32 rfl rfl ?_
        refine mw_getr C f_Mo_23 d_Mo_comes_33 (by decide) rfl rfl ?_
        refine mw_iload_n C 3 d_Mo_comes_36 rfl rfl ?_
        refine mw_iconst C (v := nI 1) d_Mo_comes_37 (by decide) ?_
        refine mw_iaddN C d_Mo_comes_38 ?_
        refine mo_ald C h d_Mo_comes_39 (by decide) rfl rfl (by omega) (by decide) ?_
        refine mo_ast C rfl h d_Mo_comes_40 (by decide) rfl rfl (by omega) (by decide) (fun S h => ?_)
        refine mw_iincN C d_Mo_comes_41 rfl (by decide) ?_
        refine mw_goto C 19 d_Mo_comes_44 (by decide) ?_
        exact mw_to _ (by exact And.intro rfl (And.intro rfl (And.intro rfl (And.intro rfl (trivial))))) (ih (n + 1) S (by omega) h)
  refine mw_aload_n C 0 d_Mo_comes_0 rfl rfl ?_
  refine mw_getr C f_Mo_23 d_Mo_comes_1 (by decide) rfl rfl ?_
  refine mw_iload_n C 1 d_Mo_comes_4 rfl rfl ?_
  refine mo_ald C h d_Mo_comes_5 (by decide) rfl rfl (by omega) (by decide) ?_
  refine mw_istore_n C 2 d_Mo_comes_6 rfl (by decide) ?_
  refine mw_aload_n C 0 d_Mo_comes_7 rfl rfl ?_
  refine mw_dup C d_Mo_comes_8 rfl ?_
  refine mo_get C h f_Mo_96 d_Mo_comes_9 rfl rfl ?_
  refine mw_iconst C (v := nI 1) d_Mo_comes_12 (by decide) ?_
  refine mw_isubN C d_Mo_comes_13 (by omega) ?_
  refine mo_put C rfl h f_Mo_96 p_Mo_12 d_Mo_comes_14 rfl rfl (fun S h => ?_)
  refine mw_iload_n C 1 d_Mo_comes_17 rfl rfl ?_
  refine mw_istore_n C 3 d_Mo_comes_18 rfl (by decide) ?_
  exact mw_to _ (by exact And.intro rfl (And.intro rfl (And.intro rfl (And.intro rfl (trivial))))) (L _ 0 S (Nat.zero_add _) h)
theorem nI_self (x : Int32) : x = nI x.toBitVec.toNat := Int32.toBitVec_inj.mp (by show _ = BitVec.ofNat 32 _; simp)
def a_next (x : Int32) : Int32 := x * 1103515245 + nI 12345
def a_pick (x : Int32) (n : Nat) : Nat := x.toBitVec.toNat / 2 ^ 16 % n
set_option maxHeartbeats 4000000 in
set_option maxRecDepth 100000 in
theorem m_Mo_draw (l : Launch) (D : va_G) (cA : Nat → ClassId) (cn fv : Int32) (σ : aS) (n : Nat) (S : mw_S) (h : mR cn fv σ S) (hn : 0 < n) (hn2 : n < 2 ^ 31) : mw_M true l lw_tbl y_Mo_draw b_Mo_draw 2 (some .int) { frames := 0, cells := 0, slots := 0, locals := 0 } D vCl cA sh_Mo 22 [.inr (.inr 0), .inl (nI n)] (S) (mw_Pi (fun z S' => z = nI (a_pick (a_next σ.2.2) n) ∧ mR cn fv (a_dr σ (a_next σ.2.2)) S')) := by
  refine mw_M_of (by decide) (Nat.le_of_ble_eq_true rfl) ?_
  intro p e s m args below meth c A ad C hR
  refine mw_aload_n C 0 d_Mo_draw_0 rfl rfl ?_
  refine mw_aload_n C 0 d_Mo_draw_1 rfl rfl ?_
  refine mo_getD C h f_Mo_75 d_Mo_draw_2 ?_
  refine mw_ldc C kc_Mo_92 d_Mo_draw_5 ?_
  refine mw_imul C d_Mo_draw_7 ?_
  refine mw_sipush C (v := nI 12345) d_Mo_draw_8 (by decide) ?_
  refine mw_iadd C d_Mo_draw_11 ?_
  refine mw_eqi (show _ = a_next σ.2.2 from rfl) ?_
  refine mo_putD C rfl h f_Mo_75 p_Mo_1 d_Mo_draw_12 (fun S h => ?_)
  refine mw_aload_n C 0 d_Mo_draw_15 rfl rfl ?_
  refine mo_getD C h f_Mo_75 d_Mo_draw_16 ?_
  refine mw_eqi (show _ = a_next σ.2.2 from rfl) ?_
  refine mw_bipush C (v := nI 16) d_Mo_draw_19 (by decide) ?_
  refine mw_iushr C d_Mo_draw_21 ?_
  have hlt : (a_next σ.2.2).toBitVec.toNat < 2 ^ 32 := (a_next σ.2.2).toBitVec.isLt
  refine mw_eqi (show _ = nI ((a_next σ.2.2).toBitVec.toNat / 2 ^ 16) from (nI_self _).trans (by rw [pk_ushr _ (nI 16) 16 (s_u 16 (by decide))])) ?_
  refine mw_iload_n C 1 d_Mo_draw_22 rfl rfl ?_
  refine mw_iremN C d_Mo_draw_23 (by omega) hn hn2 ?_
  refine mw_iret C hR d_Mo_draw_24 ?_
  exact ⟨rfl, h⟩
