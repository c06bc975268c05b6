/-! the reference's methods: vertices made, transfers, the order -/
def a_newV (σ : aS) (place k : Nat) (w : Int64) (t : Nat) : aS := a_up (a_wk (a_up (a_up (a_up σ 0 5 (σ.1 0 5 + 1)) 1 (σ.1 0 5 + 1) place) 2 (σ.1 0 5 + 1) k) (σ.1 0 5 + 1) w) 4 (σ.1 0 5 + 1) t
set_option maxHeartbeats 4000000 in
set_option maxRecDepth 100000 in
theorem m_Mo_newVertex (l : Launch) (D : va_G) (cA : Nat → ClassId) (cn fv : Int32) (σ : aS) (place k t : Nat) (w0 : Int64) (S : mw_S) (h : mR cn fv σ S) (hv : σ.1 0 5 < 79) : mw_M true l lw_tbl y_Mo_newVertex b_Mo_newVertex 6 (some .int) { frames := 0, cells := 0, slots := 0, locals := 0 } D vCl cA sh_Mo 22 [.inr (.inr 0), .inl (nI place), .inl (nI k), .inr (.inl w0), .inl (nI t)] (S) (mw_Pi (fun z S' => z = nI (σ.1 0 5 + 1) ∧ mR cn fv (a_newV σ place k w0 t) S')) := by
  refine mw_M_of (by decide) (Nat.le_of_ble_eq_true rfl) ?_
  intro p e s m args below meth c A ad C hR
  refine mw_aload_n C 0 d_Mo_newVertex_0 rfl rfl ?_
  refine mw_dup C d_Mo_newVertex_1 rfl ?_
  refine mo_get C h f_Mo_165 d_Mo_newVertex_2 rfl rfl ?_
  refine mw_iconst C (v := nI 1) d_Mo_newVertex_5 (by decide) ?_
  refine mw_iaddN C d_Mo_newVertex_6 ?_
  refine mo_put C rfl h f_Mo_165 p_Mo_5 d_Mo_newVertex_7 rfl rfl (fun S h => ?_)
  have e1 : (a_up σ 0 5 (σ.1 0 5 + 1)).1 0 5 = σ.1 0 5 + 1 := a_up_s _ _ _ _
  refine mw_aload_n C 0 d_Mo_newVertex_10 rfl rfl ?_
  refine mw_getr C f_Mo_7 d_Mo_newVertex_11 (by decide) rfl rfl ?_
  refine mw_aload_n C 0 d_Mo_newVertex_14 rfl rfl ?_
  refine mo_get C h f_Mo_165 d_Mo_newVertex_15 rfl rfl ?_
  refine mw_eqi (show _ = nI (σ.1 0 5 + 1) from by rw [e1]) ?_
  refine mw_iload_n C 1 d_Mo_newVertex_18 rfl rfl ?_
  refine mo_ast C rfl h d_Mo_newVertex_19 (by decide) rfl rfl (by omega) (by decide) (fun S h => ?_)
  refine mw_aload_n C 0 d_Mo_newVertex_20 rfl rfl ?_
  refine mw_getr C f_Mo_13 d_Mo_newVertex_21 (by decide) rfl rfl ?_
  refine mw_aload_n C 0 d_Mo_newVertex_24 rfl rfl ?_
  refine mo_get C h f_Mo_165 d_Mo_newVertex_25 rfl rfl ?_
  refine mw_eqi (show _ = nI (σ.1 0 5 + 1) from by rw [a_up_f _ _ _ _ (by decide), e1]) ?_
  refine mw_iload_n C 2 d_Mo_newVertex_28 rfl rfl ?_
  refine mo_ast C rfl h d_Mo_newVertex_29 (by decide) rfl rfl (by omega) (by decide) (fun S h => ?_)
  refine mw_aload_n C 0 d_Mo_newVertex_30 rfl rfl ?_
  refine mw_getr C f_Mo_16 d_Mo_newVertex_31 (by decide) rfl rfl ?_
  refine mw_aload_n C 0 d_Mo_newVertex_34 rfl rfl ?_
  refine mo_get C h f_Mo_165 d_Mo_newVertex_35 rfl rfl ?_
  refine mw_eqi (show _ = nI (σ.1 0 5 + 1) from by rw [a_up_f _ _ _ _ (by decide), a_up_f _ _ _ _ (by decide), e1]) ?_
  refine mw_lload_n C 3 d_Mo_newVertex_38 rfl rfl ?_
  refine mo_last C rfl h d_Mo_newVertex_39 (by omega) (fun S h => ?_)
  refine mw_aload_n C 0 d_Mo_newVertex_40 rfl rfl ?_
  refine mw_getr C f_Mo_20 d_Mo_newVertex_41 (by decide) rfl rfl ?_
  refine mw_aload_n C 0 d_Mo_newVertex_44 rfl rfl ?_
  refine mo_get C h f_Mo_165 d_Mo_newVertex_45 rfl rfl ?_
  refine mw_eqi (show _ = nI (σ.1 0 5 + 1) from by show nI ((a_up (a_up (a_up σ 0 5 (σ.1 0 5 + 1)) 1 (σ.1 0 5 + 1) place) 2 (σ.1 0 5 + 1) k).1 0 5) = _; rw [a_up_f _ _ _ _ (by decide), a_up_f _ _ _ _ (by decide), e1]) ?_
  refine mw_iload C d_Mo_newVertex_48 rfl ?_
  refine mo_ast C rfl h d_Mo_newVertex_50 (by decide) rfl rfl (by omega) (by decide) (fun S h => ?_)
  refine mw_aload_n C 0 d_Mo_newVertex_51 rfl rfl ?_
  refine mo_get C h f_Mo_165 d_Mo_newVertex_52 rfl rfl ?_
  refine mw_eqi (show _ = nI (σ.1 0 5 + 1) from by rw [a_up_f _ _ _ _ (by decide)]; show nI ((a_up (a_up (a_up σ 0 5 (σ.1 0 5 + 1)) 1 (σ.1 0 5 + 1) place) 2 (σ.1 0 5 + 1) k).1 0 5) = _; rw [a_up_f _ _ _ _ (by decide), a_up_f _ _ _ _ (by decide), e1]) ?_
  refine mw_iret C hR d_Mo_newVertex_55 ?_
  exact ⟨rfl, h⟩
set_option maxHeartbeats 4000000 in
set_option maxRecDepth 100000 in
theorem m_Mo_make (l : Launch) (D : va_G) (cA : Nat → ClassId) (cn fv : Int32) (σ : aS) (node t : Nat) (S : mw_S) (h : mR cn fv σ S) (hn : node < 4) (ht : a_tok t) (hb : ∀ k, k < 4 → σ.1 18 (4 * node + k) ≤ 400) : mw_M true l lw_tbl y_Mo_make b_Mo_make 6 none { frames := 0, cells := 0, slots := 0, locals := 0 } D vCl cA sh_Mo 22 [.inr (.inr 0), .inl (nI node), .inl (nI t)] (S) (mw_Pv (fun S' => mR cn fv (a_make σ node t) S')) := by
  refine mw_M_of (by decide) (Nat.le_of_ble_eq_true rfl) ?_
  intro p e s m args below meth c A ad C hR
  obtain ⟨t1, t2, t3⟩ := ht
  have hba := hb (t / 10 % 10) (by omega)
  refine mw_iload_n C 2 d_Mo_make_0 rfl rfl ?_
  refine mw_sipush C (v := nI 1000) d_Mo_make_1 (by decide) ?_
  refine mw_idivN C d_Mo_make_4 (by omega) (by decide) (by decide) ?_
  refine mw_istore_n C 3 d_Mo_make_5 rfl (by decide) ?_
  refine mw_iconst C (v := nI 4) d_Mo_make_6 (by decide) ?_
  refine mw_iload_n C 1 d_Mo_make_7 rfl rfl ?_
  refine mw_imulN C d_Mo_make_8 ?_
  refine mw_iload_n C 2 d_Mo_make_9 rfl rfl ?_
  refine mw_bipush C (v := nI 10) d_Mo_make_10 (by decide) ?_
  refine mw_idivN C d_Mo_make_12 (by omega) (by decide) (by decide) ?_
  refine mw_bipush C (v := nI 10) d_Mo_make_13 (by decide) ?_
  refine mw_iremN C d_Mo_make_15 (by omega) (by decide) (by decide) ?_
  refine mw_iaddN C d_Mo_make_16 ?_
  refine mw_istore C d_Mo_make_17 (by decide) ?_
  refine mw_iconst C (v := nI 4) d_Mo_make_19 (by decide) ?_
  refine mw_iload_n C 1 d_Mo_make_20 rfl rfl ?_
  refine mw_imulN C d_Mo_make_21 ?_
  refine mw_iload_n C 2 d_Mo_make_22 rfl rfl ?_
  refine mw_bipush C (v := nI 10) d_Mo_make_23 (by decide) ?_
  refine mw_iremN C d_Mo_make_25 (by omega) (by decide) (by decide) ?_
  refine mw_iaddN C d_Mo_make_26 ?_
  refine mw_istore C d_Mo_make_27 (by decide) ?_
  refine mw_iload_n C 2 d_Mo_make_29 rfl rfl ?_
  refine mw_if_eqN C 44 d_Mo_make_30 (by decide) (by omega) (fun h30 => ?_) (fun h30 => ?_)
  ·
    refine mw_vret C hR d_Mo_make_44 ?_
    unfold a_make
    rw [if_pos (Or.inl h30)]
    exact h
  ·
    refine mw_aload_n C 0 d_Mo_make_33 rfl rfl ?_
    refine mw_getr C f_Mo_63 d_Mo_make_34 (by decide) rfl rfl ?_
    refine mw_iload C d_Mo_make_37 rfl ?_
    refine mo_ald C h d_Mo_make_39 (by decide) rfl rfl (by omega) (by decide) ?_
    refine mw_iload_n C 3 d_Mo_make_40 rfl rfl ?_
    refine mw_icmp_geN C 45 d_Mo_make_41 (by decide) (by omega) (by omega) (fun h41 => ?_) (fun h41 => ?_)
    ·
      refine mw_aload_n C 0 d_Mo_make_45 rfl rfl ?_
      refine mw_getr C f_Mo_63 d_Mo_make_46 (by decide) rfl rfl ?_
      refine mw_iload C d_Mo_make_49 rfl ?_
      refine mw_dup2_11 C d_Mo_make_51 rfl rfl ?_
      refine mo_ald C h d_Mo_make_52 (by decide) rfl rfl (by omega) (by decide) ?_
      refine mw_iload_n C 3 d_Mo_make_53 rfl rfl ?_
      refine mw_isubN C d_Mo_make_54 (by omega) ?_
      refine mo_ast C rfl h d_Mo_make_55 (by decide) rfl rfl (by omega) (by decide) (fun S h => ?_)
      refine mw_aload_n C 0 d_Mo_make_56 rfl rfl ?_
      refine mw_getr C f_Mo_63 d_Mo_make_57 (by decide) rfl rfl ?_
      refine mw_iload C d_Mo_make_60 rfl ?_
      refine mw_dup2_11 C d_Mo_make_62 rfl rfl ?_
      refine mo_ald C h d_Mo_make_63 (by decide) rfl rfl (by omega) (by decide) ?_
      refine mw_iload_n C 3 d_Mo_make_64 rfl rfl ?_
      refine mw_iaddN C d_Mo_make_65 ?_
      refine mo_ast C rfl h d_Mo_make_66 (by decide) rfl rfl (by omega) (by decide) (fun S h => ?_)
      refine mw_vret C hR d_Mo_make_67 ?_
      unfold a_make
      rw [if_neg (by omega)]
      exact h
    ·
      refine mw_vret C hR d_Mo_make_44 ?_
      unfold a_make
      rw [if_pos (Or.inr (by omega))]
      exact h
def a_shQ (node : Nat) : Nat → aS → aS
  | 0, σ => σ
  | k + 1, σ => a_up (a_shQ node k σ) 19 (12 * node + k) ((a_shQ node k σ).1 19 (12 * node + k + 1))
def a_first (σ : aS) (node : Nat) : Nat × aS := if σ.1 20 node = 0 then (0, σ) else (σ.1 19 (12 * node), a_shQ node (σ.1 20 node - 1) (a_up σ 20 node (σ.1 20 node - 1)))
theorem a_shQ_kp (node : Nat) (σ : aS) : ∀ k, a_kp (fun f => f = 19) σ (a_shQ node k σ)
  | 0 => a_kp_r _ _
  | k + 1 => a_kp_t (a_shQ_kp node σ k) (a_kp_u (fs := fun f => f = 19) (f := 19) rfl _ _ _)
set_option maxHeartbeats 4000000 in
set_option maxRecDepth 100000 in
theorem m_Mo_firstTransfer (l : Launch) (D : va_G) (cA : Nat → ClassId) (cn fv : Int32) (σ : aS) (node : Nat) (S : mw_S) (h : mR cn fv σ S) (hn : node < 4) (hq : σ.1 20 node ≤ 12) : mw_M true l lw_tbl y_Mo_firstTransfer b_Mo_firstTransfer 4 (some .int) { frames := 0, cells := 0, slots := 0, locals := 0 } D vCl cA sh_Mo 22 [.inr (.inr 0), .inl (nI node)] (S) (mw_Pi (fun z S' => z = nI (a_first σ node).1 ∧ mR cn fv (a_first σ node).2 S')) := by
  refine mw_M_of (by decide) (Nat.le_of_ble_eq_true rfl) ?_
  intro p e s m args below meth c A ad C hR
  refine mw_aload_n C 0 d_Mo_firstTransfer_0 rfl rfl ?_
  refine mw_getr C f_Mo_69 d_Mo_firstTransfer_1 (by decide) rfl rfl ?_
  refine mw_iload_n C 1 d_Mo_firstTransfer_4 rfl rfl ?_
  refine mo_ald C h d_Mo_firstTransfer_5 (by decide) rfl rfl (by omega) (by decide) ?_
  refine mw_if_neN C 11 d_Mo_firstTransfer_6 (by decide) (by omega) (fun h6 => ?_) (fun h6 => ?_)
  ·
    have L : ∀ (dd i : Nat) (S1 : mw_S), i + dd = σ.1 20 node - 1 → mR cn fv (a_shQ node i (a_up σ 20 node (σ.1 20 node - 1))) S1 → mw p l e { frames := 0, cells := 0, slots := 0, locals := 0 } s m args below meth c (MQ below (mw_Qc true D vCl cA ad sh_Mo 22 s.heap.size (S) (mw_Pi (fun z S' => z = nI (a_first σ node).1 ∧ mR cn fv (a_first σ node).2 S'))) args s 0 0 A) 0 0 D vCl cA A ad sh_Mo 22 4 (33) ([(3, .inl (nI i)), (2, .inl (nI (σ.1 19 (12 * node)))), (0, .inr (.inr 0)), (1, .inl (nI node))]) ([]) (S1) := by
      intro dd
      induction dd with
      | zero =>
        intro i S1 hi h
        refine mw_iload_n C 3 d_Mo_firstTransfer_33 rfl rfl ?_
        refine mw_aload_n C 0 d_Mo_firstTransfer_34 rfl rfl ?_
        refine mw_getr C f_Mo_69 d_Mo_firstTransfer_35 (by decide) rfl rfl ?_
        refine mw_iload_n C 1 d_Mo_firstTransfer_38 rfl rfl ?_
        refine mo_ald C h d_Mo_firstTransfer_39 (by decide) rfl rfl (by omega) (by decide) ?_
        refine mw_eqi (show _ = nI (σ.1 20 node - 1) from by rw [(a_shQ_kp node _ i).1 20 node (by decide), a_up_s]) ?_
        refine mw_icmp_geN C 73 d_Mo_firstTransfer_40 (by decide) (by omega) (by omega) (fun h40 => ?_) (fun h40 => ?_)
        ·
          refine mw_iload_n C 2 d_Mo_firstTransfer_73 rfl rfl ?_
          refine mw_iret C hR d_Mo_firstTransfer_74 ?_
          unfold a_first
          rw [if_neg (by omega)]
          rw [show i = σ.1 20 node - 1 from by omega] at h
          exact ⟨rfl, h⟩
        · exfalso; omega
      | succ dd ih =>
        intro i S1 hi h
        refine mw_iload_n C 3 d_Mo_firstTransfer_33 rfl rfl ?_
        refine mw_aload_n C 0 d_Mo_firstTransfer_34 rfl rfl ?_
        refine mw_getr C f_Mo_69 d_Mo_firstTransfer_35 (by decide) rfl rfl ?_
        refine mw_iload_n C 1 d_Mo_firstTransfer_38 rfl rfl ?_
        refine mo_ald C h d_Mo_firstTransfer_39 (by decide) rfl rfl (by omega) (by decide) ?_
        refine mw_eqi (show _ = nI (σ.1 20 node - 1) from by rw [(a_shQ_kp node _ i).1 20 node (by decide), a_up_s]) ?_
        refine mw_icmp_geN C 73 d_Mo_firstTransfer_40 (by decide) (by omega) (by omega) (fun h40 => ?_) (fun h40 => ?_)
        · exfalso; omega
        ·
          refine mw_aload_n C 0 d_Mo_firstTransfer_43 rfl rfl ?_
          refine mw_getr C f_Mo_66 d_Mo_firstTransfer_44 (by decide) rfl rfl ?_
          refine mw_bipush C (v := nI 12) d_Mo_firstTransfer_47 (by decide) ?_
          refine mw_iload_n C 1 d_Mo_firstTransfer_49 rfl rfl ?_
          refine mw_imulN C d_Mo_firstTransfer_50 ?_
          refine mw_iload_n C 3 d_Mo_firstTransfer_51 rfl rfl ?_
          refine mw_iaddN C d_Mo_firstTransfer_52 ?_
          refine mw_aload_n C 0 d_Mo_firstTransfer_53 rfl rfl ?_
          refine mw_getr C f_Mo_66 d_Mo_firstTransfer_54 (by decide) rfl rfl ?_
          refine mw_bipush C (v := nI 12) d_Mo_firstTransfer_57 (by decide) ?_
          refine mw_iload_n C 1 d_Mo_firstTransfer_59 rfl rfl ?_
          refine mw_imulN C d_Mo_firstTransfer_60 ?_
          refine mw_iload_n C 3 d_Mo_firstTransfer_61 rfl rfl ?_
          refine mw_iaddN C d_Mo_firstTransfer_62 ?_
          refine mw_iconst C (v := nI 1) d_Mo_firstTransfer_63 (by decide) ?_
          refine mw_iaddN C d_Mo_firstTransfer_64 ?_
          refine mo_ald C h d_Mo_firstTransfer_65 (by decide) rfl rfl (by omega) (by decide) ?_
          refine mo_ast C rfl h d_Mo_firstTransfer_66 (by decide) rfl rfl (by omega) (by decide) (fun S h => ?_)
          refine mw_iincN C d_Mo_firstTransfer_67 rfl (by decide) ?_
          refine mw_goto C 33 d_Mo_firstTransfer_70 (by decide) ?_
          exact mw_to _ (by exact And.intro rfl (And.intro rfl (And.intro rfl (And.intro rfl (trivial))))) (ih (i + 1) S (by omega) h)
    refine mw_aload_n C 0 d_Mo_firstTransfer_11 rfl rfl ?_
    refine mw_getr C f_Mo_66 d_Mo_firstTransfer_12 (by decide) rfl rfl ?_
    refine mw_bipush C (v := nI 12) d_Mo_firstTransfer_15 (by decide) ?_
    refine mw_iload_n C 1 d_Mo_firstTransfer_17 rfl rfl ?_
    refine mw_imulN C d_Mo_firstTransfer_18 ?_
    refine mo_ald C h d_Mo_firstTransfer_19 (by decide) rfl rfl (by omega) (by decide) ?_
    refine mw_istore_n C 2 d_Mo_firstTransfer_20 rfl (by decide) ?_
    refine mw_aload_n C 0 d_Mo_firstTransfer_21 rfl rfl ?_
    refine mw_getr C f_Mo_69 d_Mo_firstTransfer_22 (by decide) rfl rfl ?_
    refine mw_iload_n C 1 d_Mo_firstTransfer_25 rfl rfl ?_
    refine mw_dup2_11 C d_Mo_firstTransfer_26 rfl rfl ?_
    refine mo_ald C h d_Mo_firstTransfer_27 (by decide) rfl rfl (by omega) (by decide) ?_
    refine mw_iconst C (v := nI 1) d_Mo_firstTransfer_28 (by decide) ?_
    refine mw_isubN C d_Mo_firstTransfer_29 (by omega) ?_
    refine mo_ast C rfl h d_Mo_firstTransfer_30 (by decide) rfl rfl (by omega) (by decide) (fun S h => ?_)
    refine mw_iconst C (v := nI 0) d_Mo_firstTransfer_31 (by decide) ?_
    refine mw_istore_n C 3 d_Mo_firstTransfer_32 rfl (by decide) ?_
    exact mw_to _ (by exact And.intro rfl (And.intro rfl (And.intro rfl (And.intro rfl (trivial))))) (L _ 0 S (Nat.zero_add _) h)
  ·
    refine mw_iconst C (v := nI 0) d_Mo_firstTransfer_9 (by decide) ?_
    refine mw_iret C hR d_Mo_firstTransfer_10 ?_
    unfold a_first
    rw [if_pos h6]
    exact ⟨rfl, h⟩
set_option maxHeartbeats 4000000 in
set_option maxRecDepth 100000 in
theorem m_Mo_orderBelow (l : Launch) (D : va_G) (cA : Nat → ClassId) (cn fv : Int32) (σ : aS) (fy B node place : Nat) (S : mw_S) (h : mR cn fv σ S) (hI : aI fy B σ) (hn : node < 4) (hp : place < 48) : mw_M true l lw_tbl y_Mo_orderBelow b_Mo_orderBelow 7 none { frames := 2, cells := 0, slots := 0, locals := 53 } D vCl cA sh_Mo 22 [.inr (.inr 0), .inl (nI node), .inl (nI place)] (S) (mw_Pv (fun S' => mR cn fv (a_ordB σ node place) S')) := by
  refine mw_M_of (by decide) (Nat.le_of_ble_eq_true rfl) ?_
  intro p e s m args below meth c A ad C hR
  have L : ∀ (all : Int64) (dd i : Nat) (S1 : mw_S), i + dd = 48 → a_ordL node all 48 σ = a_ordB σ node place → mR cn fv (a_ordL node all i σ) S1 → mw p l e { frames := 2, cells := 0, slots := 0, locals := 53 } s m args below meth c (MQ below (mw_Qc true D vCl cA ad sh_Mo 22 s.heap.size (S) (mw_Pv (fun S' => mR cn fv (a_ordB σ node place) S'))) args s 0 0 A) 0 0 D vCl cA A ad sh_Mo 22 7 (13) ([(5, .inl (nI i)), (3, .inr (.inl all)), (0, .inr (.inr 0)), (1, .inl (nI node))]) ([]) (S1) := by
    intro all dd
    induction dd with
    | zero =>
      intro i S1 hi he h
      refine mw_iload C d_Mo_orderBelow_13 rfl ?_
      refine mw_bipush C (v := nI 48) d_Mo_orderBelow_15 (by decide) ?_
      refine mw_icmp_geN C 109 d_Mo_orderBelow_17 (by decide) (by omega) (by omega) (fun h17 => ?_) (fun h17 => ?_)
      ·
        refine mw_vret C hR d_Mo_orderBelow_109 ?_
        rw [show i = 48 from by omega, he] at h
        exact h
      · exfalso; omega
    | succ dd ih =>
      intro i S1 hi he h
      have hI2 := aI_ordL hI all hn i (by omega)
      have h10 := hI2.f10 (48 * node + i)
      have ha := hI2.a80 (n := node) (q := i) hn (by omega)
      have hoc := hI2.oc node hn
      refine mw_iload C d_Mo_orderBelow_13 rfl ?_
      refine mw_bipush C (v := nI 48) d_Mo_orderBelow_15 (by decide) ?_
      refine mw_icmp_geN C 109 d_Mo_orderBelow_17 (by decide) (by omega) (by omega) (fun h17 => ?_) (fun h17 => ?_)
      · exfalso; omega
      ·
        refine mw_bipush C (v := nI 48) d_Mo_orderBelow_20 (by decide) ?_
        refine mw_iload_n C 1 d_Mo_orderBelow_22 rfl rfl ?_
        refine mw_imulN C d_Mo_orderBelow_23 ?_
        refine mw_iload C d_Mo_orderBelow_24 rfl ?_
        refine mw_iaddN C d_Mo_orderBelow_26 ?_
        refine mw_istore C d_Mo_orderBelow_27 (by decide) ?_
        refine mw_lload_n C 3 d_Mo_orderBelow_29 rfl rfl ?_
        refine mw_iload C d_Mo_orderBelow_30 rfl ?_
        refine mw_lshr C d_Mo_orderBelow_32 ?_
        refine mw_lconst C (v := 1) d_Mo_orderBelow_33 (by decide) ?_
        refine mw_land C d_Mo_orderBelow_34 ?_
        refine mw_lconst C (v := 1) d_Mo_orderBelow_35 (by decide) ?_
        refine mw_lcmp C d_Mo_orderBelow_36 ?_
        refine mw_if_ne C 103 d_Mo_orderBelow_37 (by decide) (fun h37 => ?_) (fun h37 => ?_)
        ·
          refine mw_iincN C d_Mo_orderBelow_103 rfl (by decide) ?_
          refine mw_goto C 13 d_Mo_orderBelow_106 (by decide) ?_
          refine mw_to _ (by exact And.intro rfl (And.intro rfl (And.intro rfl (And.intro rfl (trivial))))) (ih (i + 1) _ (by omega) he ?_)
          rw [a_ordL, a_ordS, if_neg (fun hh => h37 ((lg_cmp_eq _ _).mpr ((lb_is1 all (by omega)).mpr hh.1)))]
          exact h
        ·
          have hb : lb all i = true := (lb_is1 all (by omega)).mp ((lg_cmp_eq _ _).mp h37)
          refine mw_aload_n C 0 d_Mo_orderBelow_40 rfl rfl ?_
          refine mw_getr C f_Mo_39 d_Mo_orderBelow_41 (by decide) rfl rfl ?_
          refine mw_iload C d_Mo_orderBelow_44 rfl ?_
          refine mo_zald C h d_Mo_orderBelow_46 (by decide) rfl rfl (by omega) (by decide) ?_
          refine mw_if_neN C 103 d_Mo_orderBelow_47 (by decide) (by omega) (fun h47 => ?_) (fun h47 => ?_)
          ·
            refine mw_iincN C d_Mo_orderBelow_103 rfl (by decide) ?_
            refine mw_goto C 13 d_Mo_orderBelow_106 (by decide) ?_
            refine mw_to _ (by exact And.intro rfl (And.intro rfl (And.intro rfl (And.intro rfl (trivial))))) (ih (i + 1) _ (by omega) he ?_)
            rw [a_ordL, a_ordS, if_neg (fun hh => by omega)]
            exact h
          ·
            have hps := a_c0_pos (g := fun q => (a_ordL node all i σ).1 10 (48 * node + q)) (j := i) (n := 48) h47 (by omega)
            refine mw_aload_n C 0 d_Mo_orderBelow_50 rfl rfl ?_
            refine mw_getr C f_Mo_39 d_Mo_orderBelow_51 (by decide) rfl rfl ?_
            refine mw_iload C d_Mo_orderBelow_54 rfl ?_
            refine mw_iconst C (v := nI 1) d_Mo_orderBelow_56 (by decide) ?_
            refine mo_zast C rfl h d_Mo_orderBelow_57 (by decide) rfl rfl (by omega) (by decide) (by decide) (fun S h => ?_)
            refine mw_aload_n C 0 d_Mo_orderBelow_58 rfl rfl ?_
            refine mw_getr C f_Mo_42 d_Mo_orderBelow_59 (by decide) rfl rfl ?_
            refine mw_bipush C (v := nI 48) d_Mo_orderBelow_62 (by decide) ?_
            refine mw_iload_n C 1 d_Mo_orderBelow_64 rfl rfl ?_
            refine mw_imulN C d_Mo_orderBelow_65 ?_
            refine mw_aload_n C 0 d_Mo_orderBelow_66 rfl rfl ?_
            refine mw_getr C f_Mo_60 d_Mo_orderBelow_67 (by decide) rfl rfl ?_
            refine mw_iload_n C 1 d_Mo_orderBelow_70 rfl rfl ?_
            refine mo_ald C h d_Mo_orderBelow_71 (by decide) rfl rfl (by omega) (by decide) ?_
            refine mw_eqi (show _ = nI ((a_ordL node all i σ).1 17 node) from by rw [a_up_f _ _ _ _ (by decide)]) ?_
            refine mw_iaddN C d_Mo_orderBelow_72 ?_
            refine mw_iload C d_Mo_orderBelow_73 rfl ?_
            refine mo_ast C rfl h d_Mo_orderBelow_75 (by decide) rfl rfl (by omega) (by decide) (fun S h => ?_)
            refine mw_aload_n C 0 d_Mo_orderBelow_76 rfl rfl ?_
            refine mw_getr C f_Mo_60 d_Mo_orderBelow_77 (by decide) rfl rfl ?_
            refine mw_iload_n C 1 d_Mo_orderBelow_80 rfl rfl ?_
            refine mw_dup2_11 C d_Mo_orderBelow_81 rfl rfl ?_
            refine mo_ald C h d_Mo_orderBelow_82 (by decide) rfl rfl (by omega) (by decide) ?_
            refine mw_eqi (show _ = nI ((a_ordL node all i σ).1 17 node) from by rw [a_up_f _ _ _ _ (by decide), a_up_f _ _ _ _ (by decide)]) ?_
            refine mw_iconst C (v := nI 1) d_Mo_orderBelow_83 (by decide) ?_
            refine mw_iaddN C d_Mo_orderBelow_84 ?_
            refine mo_ast C rfl h d_Mo_orderBelow_85 (by decide) rfl rfl (by omega) (by decide) (fun S h => ?_)
            refine mw_aload_n C 0 d_Mo_orderBelow_86 rfl rfl ?_
            refine mw_iload_n C 1 d_Mo_orderBelow_87 rfl rfl ?_
            refine mw_aload_n C 0 d_Mo_orderBelow_88 rfl rfl ?_
            refine mw_getr C f_Mo_20 d_Mo_orderBelow_89 (by decide) rfl rfl ?_
            refine mw_aload_n C 0 d_Mo_orderBelow_92 rfl rfl ?_
            refine mw_getr C f_Mo_33 d_Mo_orderBelow_93 (by decide) rfl rfl ?_
            refine mw_iload C d_Mo_orderBelow_96 rfl ?_
            refine mo_ald C h d_Mo_orderBelow_98 (by decide) rfl rfl (by omega) (by decide) ?_
            refine mw_eqi (show _ = nI ((a_ordL node all i σ).1 8 (48 * node + i)) from by rw [a_up_f _ _ _ _ (by decide), a_up_f _ _ _ _ (by decide), a_up_f _ _ _ _ (by decide)]) ?_
            refine mo_ald C h d_Mo_orderBelow_99 (by decide) rfl rfl (by omega) (by decide) ?_
            refine mw_eqi (show _ = nI ((a_ordL node all i σ).1 4 ((a_ordL node all i σ).1 8 (48 * node + i))) from by rw [a_up_f _ _ _ _ (by decide), a_up_f _ _ _ _ (by decide), a_up_f _ _ _ _ (by decide)]) ?_
            refine mo_runv C rfl (mw_invV C (kk := 0) (m_Mo_make l D cA cn fv _ node _ _ (mR_rs h) hn (hI2.tr _) (fun k hk => hI2.b400 hn hk)) ix_Mo kb_Mo_162 wm_Mo_make wv_Mo_make (by decide) rfl rfl d_Mo_orderBelow_100 rfl rfl (Nat.le_of_ble_eq_true rfl) rfl rfl ⟨by decide, by decide⟩ ⟨Nat.zero_le _, Nat.zero_le _⟩) (fun S h => ?_)
            refine mw_iincN C d_Mo_orderBelow_103 rfl (by decide) ?_
            refine mw_goto C 13 d_Mo_orderBelow_106 (by decide) ?_
            refine mw_to _ (by exact And.intro rfl (And.intro rfl (And.intro rfl (And.intro rfl (trivial))))) (ih (i + 1) _ (by omega) he ?_)
            rw [a_ordL, a_ordS, if_pos ⟨hb, h47⟩]
            exact h
  refine mw_aload_n C 0 d_Mo_orderBelow_0 rfl rfl ?_
  refine mw_iload_n C 1 d_Mo_orderBelow_1 rfl rfl ?_
  refine mw_lconst C (v := 1) d_Mo_orderBelow_2 (by decide) ?_
  refine mw_iload_n C 2 d_Mo_orderBelow_3 rfl rfl ?_
  refine mw_lshl C d_Mo_orderBelow_4 ?_
  refine mw_eql (one_shl (by omega)) ?_
  refine mw_iconst C (v := nI 0) d_Mo_orderBelow_5 (by decide) ?_
  refine mw_run0l C ix_Mo (mw_invV C (kk := 0) (m_Mo_below l D cA cn fv σ node 0 _ _ (mR_rs h) hn (by decide) (fun q hq => hI.a80 hn hq) hI.pl hI.st) ix_Mo kb_Mo_154 wm_Mo_below wv_Mo_below (by decide) rfl rfl d_Mo_orderBelow_6 rfl rfl (Nat.le_of_ble_eq_true rfl) rfl rfl ⟨by decide, by decide⟩ ⟨Nat.zero_le _, Nat.zero_le _⟩) (fun x6 e6 => ?_)
  subst e6
  refine mw_lstore_n C 3 d_Mo_orderBelow_9 rfl (by decide) ?_
  refine mw_iconst C (v := nI 0) d_Mo_orderBelow_10 (by decide) ?_
  refine mw_istore C d_Mo_orderBelow_11 (by decide) ?_
  exact mw_to _ (by exact And.intro rfl (And.intro rfl (And.intro rfl (And.intro rfl (trivial))))) (L _ 48 0 _ rfl rfl h)
