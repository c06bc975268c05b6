/-! the reference's methods: sets, vertices, transfers -/
theorem lb_sar (x : Int64) {q : Nat} (hq : q < 64) : lb (x >>> ((nI q).toInt64 &&& 63)) 0 = lb x q := by
  rw [wb_c q hq]
  unfold lb
  show (BitVec.sshiftRight' x.toBitVec ((lN q).toBitVec.smod 64)).getLsbD 0 = _
  rw [wb_tb, wb_sm q hq, BitVec.sshiftRight', BitVec.getLsbD_sshiftRight, BitVec.toNat_ofNat, Nat.mod_eq_of_lt (by omega)]
  simp [hq]
theorem lb_one (i : Nat) : lb 1 i = decide (i = 0) := by
  rw [show (1 : Int64) = lN (2 ^ 0) from by decide]
  exact lb_pow (by decide) i
theorem lb_is1 (x : Int64) {q : Nat} (hq : q < 64) : (x >>> ((nI q).toInt64 &&& 63)) &&& 1 = 1 ↔ lb x q = true := by
  rw [← lb_sar x hq]
  constructor
  · intro h
    have h1 := congrArg (fun z => lb z 0) h
    simp only [lb_and, lb_one] at h1
    simpa using h1
  · intro h
    apply lb_ext
    intro i hi
    rw [lb_and, lb_one]
    by_cases e : i = 0
    · subst e; simp [h]
    · simp [e]
theorem lb_is0 (x : Int64) {q : Nat} (hq : q < 64) : (x >>> ((nI q).toInt64 &&& 63)) &&& 1 = 0 ↔ lb x q = false := by
  rw [← lb_sar x hq]
  constructor
  · intro h
    have h1 := congrArg (fun z => lb z 0) h
    simp only [lb_and, lb_one, lb_0] at h1
    simpa using h1
  · intro h
    apply lb_ext
    intro i hi
    rw [lb_and, lb_one, lb_0]
    by_cases e : i = 0
    · subst e; simp [h]
    · simp [e]
theorem one_shl {q : Nat} (hq : q < 64) : (1 : Int64) <<< ((nI q).toInt64 &&& 63) = lN (2 ^ q) := by
  rw [show (1 : Int64) = lN 1 from by decide, wb_shl 1 hq, Nat.one_mul]
theorem ld_eq (x : Int32) {t : Nat} (ht : t ≤ 4) : (x >>> (nI t &&& 31)) &&& nI 3 = nI (x.toBitVec.toNat / 2 ^ t % 4) := by
  have e1 : (x >>> (nI t &&& 31)) &&& nI 3 = (x.toUInt32 >>> ((nI t).toUInt32 &&& Int32.toUInt32 31)).toInt32 &&& nI 3 := by
    apply b_ext
    intro i hi
    rw [b_and, b_and, b_sshr t (by omega) x hi, b_ushr t (by omega) x i]
    by_cases h2 : i < 2
    · rw [if_pos (by omega)]
    · have h3 : bt (nI 3) i = false := by
        have : ∀ i, i < 32 → ¬ i < 2 → bt (nI 3) i = false := by decide +kernel
        exact this i hi h2
      rw [h3, Bool.and_false, Bool.and_false]
  rw [e1, pk_and _ (m := nI 3) 2 (by decide), pk_ushr x (nI t) t (s_u t (by omega))]
set_option maxHeartbeats 4000000 in
set_option maxRecDepth 100000 in
theorem m_Mo_isRight (l : Launch) (D : va_G) (cA : Nat → ClassId) (cn fv : Int32) (σ : aS) (v : Nat) (S : mw_S) (h : mR cn fv σ S) (hv : v < 80) (hp : σ.1 1 v < 48) (hk : σ.1 2 v < 16) : mw_M false l lw_tbl y_Mo_isRight b_Mo_isRight 5 (some .boolean) { frames := 1, cells := 0, slots := 0, locals := 20 } D vCl cA sh_Mo 22 [.inr (.inr 0), .inl (nI v)] (S) (mw_Pi (fun r _ => r = nI (a_right σ v).toNat)) := by
  refine mw_M_of (by decide) (Nat.le_of_ble_eq_true rfl) ?_
  intro p e s m args below meth c A ad C hR
  have J : ∀ x : Int64, x = lN (2 ^ (4 * (σ.1 1 v / 4 - 1))) - 1 → ¬ σ.1 1 v / 4 = 0 → mw p l e { frames := 1, cells := 0, slots := 0, locals := 20 } s m args below meth c (MQ below (mw_Qc false D vCl cA ad sh_Mo 22 s.heap.size (S) (mw_Pi (fun r _ => r = nI (a_right σ v).toNat))) args s 0 0 A) 0 0 D vCl cA A ad sh_Mo 22 5 (60) ([(2, .inl (nI (σ.1 1 v / 4 + 1))), (0, .inr (.inr 0)), (1, .inl (nI v))]) ([.inr (.inl x)]) (S) := by
    intro x hx hq0
    refine mw_lstore_n C 3 d_Mo_isRight_60 rfl (by decide) ?_
    refine mw_aload_n C 0 d_Mo_isRight_61 rfl rfl ?_
    refine mw_getr C f_Mo_13 d_Mo_isRight_62 (by decide) rfl rfl ?_
    refine mw_iload_n C 1 d_Mo_isRight_65 rfl rfl ?_
    refine mo_ald C h d_Mo_isRight_66 (by decide) rfl rfl (by omega) (by decide) ?_
    refine mw_run0i C (ix0 _ _) (mw_invS C (m_Mo_bits l D cA (σ.1 2 v) hk _) (ix0 _ _) kb_Mo_134 ws_Mo_bits d_Mo_isRight_67 rfl rfl (Nat.le_of_ble_eq_true rfl) rfl rfl ⟨by decide, by decide⟩ ⟨Nat.zero_le _, Nat.zero_le _⟩) (fun x67 e67 => ?_)
    subst e67
    have hp4 := pop4_lt (σ.1 2 v)
    refine mw_iconst C (v := nI 3) d_Mo_isRight_70 (by decide) ?_
    refine mw_icmp_ltN C 95 d_Mo_isRight_71 (by decide) (by omega) (by omega) (fun h71 => ?_) (fun h71 => ?_)
    ·
      refine mw_iconst C (v := nI 0) d_Mo_isRight_95 (by decide) ?_
      refine mw_zret C hR d_Mo_isRight_96 (by decide) ?_
      unfold a_right ve_right
      rw [if_neg hq0, decide_eq_false (by omega)]
      rfl
    ·
      refine mw_aload_n C 0 d_Mo_isRight_74 rfl rfl ?_
      refine mw_getr C f_Mo_16 d_Mo_isRight_75 (by decide) rfl rfl ?_
      refine mw_iload_n C 1 d_Mo_isRight_78 rfl rfl ?_
      refine mo_lald C h d_Mo_isRight_79 (by omega) ?_
      refine mw_lload_n C 3 d_Mo_isRight_80 rfl rfl ?_
      refine mw_ldc2 C kc_Mo_138 d_Mo_isRight_81 ?_
      refine mw_lxor C d_Mo_isRight_84 ?_
      refine mw_land C d_Mo_isRight_85 ?_
      refine mw_lconst C (v := 0) d_Mo_isRight_86 (by decide) ?_
      refine mw_lcmp C d_Mo_isRight_87 ?_
      refine mw_if_ne C 95 d_Mo_isRight_88 (by decide) (fun h88 => ?_) (fun h88 => ?_)
      ·
        refine mw_iconst C (v := nI 0) d_Mo_isRight_95 (by decide) ?_
        refine mw_zret C hR d_Mo_isRight_96 (by decide) ?_
        unfold a_right ve_right
        rw [if_neg hq0, decide_eq_false (p := _ = _) (fun h => h88 ((lg_cmp_eq _ _).mpr (by rw [hx]; exact h))), Bool.and_false]
        rfl
      ·
        refine mw_iconst C (v := nI 1) d_Mo_isRight_91 (by decide) ?_
        refine mw_goto C 96 d_Mo_isRight_92 (by decide) ?_
        refine mw_zret C hR d_Mo_isRight_96 (by decide) ?_
        unfold a_right ve_right
        rw [if_neg hq0, decide_eq_true (by omega), decide_eq_true (p := _ = _) (by
          have h9 := (lg_cmp_eq _ _).mp h88
          rw [hx] at h9
          exact h9)]
        rfl
  refine mw_aload_n C 0 d_Mo_isRight_0 rfl rfl ?_
  refine mw_getr C f_Mo_7 d_Mo_isRight_1 (by decide) rfl rfl ?_
  refine mw_iload_n C 1 d_Mo_isRight_4 rfl rfl ?_
  refine mo_ald C h d_Mo_isRight_5 (by decide) rfl rfl (by omega) (by decide) ?_
  refine mw_iconst C (v := nI 4) d_Mo_isRight_6 (by decide) ?_
  refine mw_idivN C d_Mo_isRight_7 (by omega) (by decide) (by decide) ?_
  refine mw_iconst C (v := nI 1) d_Mo_isRight_8 (by decide) ?_
  refine mw_iaddN C d_Mo_isRight_9 ?_
  refine mw_istore_n C 2 d_Mo_isRight_10 rfl (by decide) ?_
  refine mw_iload_n C 2 d_Mo_isRight_11 rfl rfl ?_
  refine mw_iconst C (v := nI 1) d_Mo_isRight_12 (by decide) ?_
  refine mw_icmp_neN C 42 d_Mo_isRight_13 (by decide) (by omega) (by omega) (fun h13 => ?_) (fun h13 => ?_)
  ·
    refine mw_iload_n C 2 d_Mo_isRight_42 rfl rfl ?_
    refine mw_iconst C (v := nI 3) d_Mo_isRight_43 (by decide) ?_
    refine mw_icmp_geN C 51 d_Mo_isRight_44 (by decide) (by omega) (by omega) (fun h44 => ?_) (fun h44 => ?_)
    ·
      refine mw_lconst C (v := 1) d_Mo_isRight_51 (by decide) ?_
      refine mw_iconst C (v := nI 4) d_Mo_isRight_52 (by decide) ?_
      refine mw_iload_n C 2 d_Mo_isRight_53 rfl rfl ?_
      refine mw_iconst C (v := nI 2) d_Mo_isRight_54 (by decide) ?_
      refine mw_isubN C d_Mo_isRight_55 (by omega) ?_
      refine mw_imulN C d_Mo_isRight_56 ?_
      refine mw_eqi (show _ = nI (4 * (σ.1 1 v / 4 - 1)) from by congr 1) ?_
      refine mw_lshl C d_Mo_isRight_57 ?_
      refine mw_eql (one_shl (by omega)) ?_
      refine mw_lconst C (v := 1) d_Mo_isRight_58 (by decide) ?_
      refine mw_lsub C d_Mo_isRight_59 ?_
      exact mw_to _ (by exact And.intro rfl (And.intro rfl (And.intro rfl (trivial)))) (J _ rfl (by omega))
    ·
      refine mw_lconst C (v := 0) d_Mo_isRight_47 (by decide) ?_
      refine mw_goto C 60 d_Mo_isRight_48 (by decide) ?_
      exact mw_to _ (by exact And.intro rfl (And.intro rfl (And.intro rfl (trivial)))) (J 0 (by rw [show σ.1 1 v / 4 - 1 = 0 from by omega]; decide) (by omega))
  ·
    refine mw_aload_n C 0 d_Mo_isRight_16 rfl rfl ?_
    refine mw_getr C f_Mo_13 d_Mo_isRight_17 (by decide) rfl rfl ?_
    refine mw_iload_n C 1 d_Mo_isRight_20 rfl rfl ?_
    refine mo_ald C h d_Mo_isRight_21 (by decide) rfl rfl (by omega) (by decide) ?_
    refine mw_if_neN C 40 d_Mo_isRight_22 (by decide) (by omega) (fun h22 => ?_) (fun h22 => ?_)
    ·
      refine mw_iconst C (v := nI 0) d_Mo_isRight_40 (by decide) ?_
      refine mw_zret C hR d_Mo_isRight_41 (by decide) ?_
      unfold a_right ve_right
      rw [if_pos (by omega), decide_eq_false (by omega)]
      rfl
    ·
      refine mw_aload_n C 0 d_Mo_isRight_25 rfl rfl ?_
      refine mw_getr C f_Mo_16 d_Mo_isRight_26 (by decide) rfl rfl ?_
      refine mw_iload_n C 1 d_Mo_isRight_29 rfl rfl ?_
      refine mo_lald C h d_Mo_isRight_30 (by omega) ?_
      refine mw_lconst C (v := 0) d_Mo_isRight_31 (by decide) ?_
      refine mw_lcmp C d_Mo_isRight_32 ?_
      refine mw_if_ne C 40 d_Mo_isRight_33 (by decide) (fun h33 => ?_) (fun h33 => ?_)
      ·
        refine mw_iconst C (v := nI 0) d_Mo_isRight_40 (by decide) ?_
        refine mw_zret C hR d_Mo_isRight_41 (by decide) ?_
        unfold a_right ve_right
        rw [if_pos (by omega), decide_eq_false (p := _ = _) (fun h => h33 ((lg_cmp_eq _ _).mpr h)), Bool.and_false]
        rfl
      ·
        refine mw_iconst C (v := nI 1) d_Mo_isRight_36 (by decide) ?_
        refine mw_goto C 41 d_Mo_isRight_37 (by decide) ?_
        refine mw_zret C hR d_Mo_isRight_41 (by decide) ?_
        unfold a_right ve_right
        rw [if_pos (by omega), decide_eq_true h22, decide_eq_true (p := _ = _) ((lg_cmp_eq _ _).mp h33)]
        rfl
set_option maxHeartbeats 4000000 in
set_option maxRecDepth 100000 in
theorem m_Mo_points (l : Launch) (D : va_G) (cA : Nat → ClassId) (cn fv : Int32) (σ : aS) (v so : Nat) (S : mw_S) (h : mR cn fv σ S) (hv : v < 80) (hp : σ.1 1 v < 48) (hk : σ.1 2 v < 16) (hs : so ≤ 1) : mw_M false l lw_tbl y_Mo_points b_Mo_points 6 (some .long) { frames := 0, cells := 0, slots := 0, locals := 0 } D vCl cA sh_Mo 22 [.inr (.inr 0), .inl (nI v), .inl (nI so)] (S) (mw_Pl (fun r _ => r = a_points σ v (decide (so = 1)))) := by
  refine mw_M_of (by decide) (Nat.le_of_ble_eq_true rfl) ?_
  intro p e s m args below meth c A ad C hR
  have J : mw p l e { frames := 0, cells := 0, slots := 0, locals := 0 } s m args below meth c (MQ below (mw_Qc false D vCl cA ad sh_Mo 22 s.heap.size (S) (mw_Pl (fun r _ => r = a_points σ v (decide (so = 1))))) args s 0 0 A) 0 0 D vCl cA A ad sh_Mo 22 6 (33) ([(3, .inl (nI (σ.1 1 v / 4 + 1))), (0, .inr (.inr 0)), (1, .inl (nI v)), (2, .inl (nI so))]) ([.inr (.inl (ve_down (σ.1 1 v) (σ.1 2 v)))]) (S) := by
    refine mw_lstore C d_Mo_points_33 (by decide) ?_
    refine mw_iload_n C 2 d_Mo_points_35 rfl rfl ?_
    refine mw_if_eqN C 44 d_Mo_points_36 (by decide) (by omega) (fun h36 => ?_) (fun h36 => ?_)
    ·
      refine mw_lload C d_Mo_points_44 rfl ?_
      refine mw_aload_n C 0 d_Mo_points_46 rfl rfl ?_
      refine mw_getr C f_Mo_16 d_Mo_points_47 (by decide) rfl rfl ?_
      refine mw_iload_n C 1 d_Mo_points_50 rfl rfl ?_
      refine mo_lald C h d_Mo_points_51 (by omega) ?_
      refine mw_lor C d_Mo_points_52 ?_
      refine mw_lret C hR d_Mo_points_53 ?_
      unfold a_points
      rw [if_neg (by rw [h36]; decide)]
    ·
      refine mw_lload C d_Mo_points_39 rfl ?_
      refine mw_goto C 53 d_Mo_points_41 (by decide) ?_
      refine mw_lret C hR d_Mo_points_53 ?_
      unfold a_points
      rw [if_pos (by rw [show so = 1 from by omega]; rfl)]
  refine mw_aload_n C 0 d_Mo_points_0 rfl rfl ?_
  refine mw_getr C f_Mo_7 d_Mo_points_1 (by decide) rfl rfl ?_
  refine mw_iload_n C 1 d_Mo_points_4 rfl rfl ?_
  refine mo_ald C h d_Mo_points_5 (by decide) rfl rfl (by omega) (by decide) ?_
  refine mw_iconst C (v := nI 4) d_Mo_points_6 (by decide) ?_
  refine mw_idivN C d_Mo_points_7 (by omega) (by decide) (by decide) ?_
  refine mw_iconst C (v := nI 1) d_Mo_points_8 (by decide) ?_
  refine mw_iaddN C d_Mo_points_9 ?_
  refine mw_istore_n C 3 d_Mo_points_10 rfl (by decide) ?_
  refine mw_iload_n C 3 d_Mo_points_11 rfl rfl ?_
  refine mw_iconst C (v := nI 1) d_Mo_points_12 (by decide) ?_
  refine mw_icmp_neN C 20 d_Mo_points_13 (by decide) (by omega) (by omega) (fun h13 => ?_) (fun h13 => ?_)
  ·
    refine mw_aload_n C 0 d_Mo_points_20 rfl rfl ?_
    refine mw_getr C f_Mo_13 d_Mo_points_21 (by decide) rfl rfl ?_
    refine mw_iload_n C 1 d_Mo_points_24 rfl rfl ?_
    refine mo_ald C h d_Mo_points_25 (by decide) rfl rfl (by omega) (by decide) ?_
    refine mw_i2l C d_Mo_points_26 ?_
    refine mw_iconst C (v := nI 4) d_Mo_points_27 (by decide) ?_
    refine mw_iload_n C 3 d_Mo_points_28 rfl rfl ?_
    refine mw_iconst C (v := nI 2) d_Mo_points_29 (by decide) ?_
    refine mw_isubN C d_Mo_points_30 (by omega) ?_
    refine mw_imulN C d_Mo_points_31 ?_
    refine mw_eqi (show _ = nI (4 * (σ.1 1 v / 4 - 1)) from by congr 1) ?_
    refine mw_lshl C d_Mo_points_32 ?_
    refine mw_eql (show _ = ve_down (σ.1 1 v) (σ.1 2 v) from by
      unfold ve_down
      rw [if_neg (by omega), nI_l (by omega), wb_shl _ (by omega)]) ?_
    exact mw_to _ (by exact And.intro rfl (And.intro rfl (And.intro rfl (And.intro rfl (trivial))))) J
  ·
    refine mw_lconst C (v := 0) d_Mo_points_16 (by decide) ?_
    refine mw_goto C 33 d_Mo_points_17 (by decide) ?_
    refine mw_eql (show _ = ve_down (σ.1 1 v) (σ.1 2 v) from by
      unfold ve_down
      rw [if_pos (by omega)]) ?_
    exact mw_to _ (by exact And.intro rfl (And.intro rfl (And.intro rfl (And.intro rfl (trivial))))) J
set_option maxHeartbeats 4000000 in
set_option maxRecDepth 100000 in
theorem m_Mo_graphOf (l : Launch) (D : va_G) (cA : Nat → ClassId) (cn fv : Int32) (σ : aS) (node : Nat) (S : mw_S) (h : mR cn fv σ S) (hn : node < 4) (h9 : ∀ j, σ.1 9 j ≤ 1) : mw_M false l lw_tbl y_Mo_graphOf b_Mo_graphOf 5 (some .long) { frames := 0, cells := 0, slots := 0, locals := 0 } D vCl cA sh_Mo 22 [.inr (.inr 0), .inl (nI node)] (S) (mw_Pl (fun r _ => r = a_graphN σ node 48)) := by
  refine mw_M_of (by decide) (Nat.le_of_ble_eq_true rfl) ?_
  intro p e s m args below meth c A ad C hR
  have L : ∀ (dd i : Nat), i + dd = 48 → mw p l e { frames := 0, cells := 0, slots := 0, locals := 0 } s m args below meth c (MQ below (mw_Qc false D vCl cA ad sh_Mo 22 s.heap.size (S) (mw_Pl (fun r _ => r = a_graphN σ node 48))) args s 0 0 A) 0 0 D vCl cA A ad sh_Mo 22 5 (5) ([(4, .inl (nI i)), (2, .inr (.inl (a_graphN σ node i))), (0, .inr (.inr 0)), (1, .inl (nI node))]) ([]) (S) := by
    intro dd
    induction dd with
    | zero =>
      intro i hi
      refine mw_iload C d_Mo_graphOf_5 rfl ?_
      refine mw_bipush C (v := nI 48) d_Mo_graphOf_7 (by decide) ?_
      refine mw_icmp_geN C 44 d_Mo_graphOf_9 (by decide) (by omega) (by omega) (fun h9 => ?_) (fun h9 => ?_)
      ·
        refine mw_lload_n C 2 d_Mo_graphOf_44 rfl rfl ?_
        refine mw_lret C hR d_Mo_graphOf_45 ?_
        rw [show i = 48 from by omega]
      · exfalso; omega
    | succ dd ih =>
      intro i hi
      have h9i := h9 (48 * node + i)
      refine mw_iload C d_Mo_graphOf_5 rfl ?_
      refine mw_bipush C (v := nI 48) d_Mo_graphOf_7 (by decide) ?_
      refine mw_icmp_geN C 44 d_Mo_graphOf_9 (by decide) (by omega) (by omega) (fun h9 => ?_) (fun h9 => ?_)
      · exfalso; omega
      ·
        refine mw_aload_n C 0 d_Mo_graphOf_12 rfl rfl ?_
        refine mw_getr C f_Mo_36 d_Mo_graphOf_13 (by decide) rfl rfl ?_
        refine mw_bipush C (v := nI 48) d_Mo_graphOf_16 (by decide) ?_
        refine mw_iload_n C 1 d_Mo_graphOf_18 rfl rfl ?_
        refine mw_imulN C d_Mo_graphOf_19 ?_
        refine mw_iload C d_Mo_graphOf_20 rfl ?_
        refine mw_iaddN C d_Mo_graphOf_22 ?_
        refine mo_zald C h d_Mo_graphOf_23 (by decide) rfl rfl (by omega) (by decide) ?_
        refine mw_if_eqN C 36 d_Mo_graphOf_24 (by decide) (by omega) (fun h24 => ?_) (fun h24 => ?_)
        ·
          refine mw_lload_n C 2 d_Mo_graphOf_36 rfl rfl ?_
          refine mw_lstore_n C 2 d_Mo_graphOf_37 rfl (by decide) ?_
          refine mw_iincN C d_Mo_graphOf_38 rfl (by decide) ?_
          refine mw_goto C 5 d_Mo_graphOf_41 (by decide) ?_
          refine mw_eq _ _ _ (by exact And.intro rfl (And.intro (by show some (Sum.inr (Sum.inl _)) = _; rw [a_graphN, if_pos h24]) (And.intro rfl (And.intro rfl trivial)))) rfl rfl (ih (i + 1) (by omega))
        ·
          refine mw_lload_n C 2 d_Mo_graphOf_27 rfl rfl ?_
          refine mw_lconst C (v := 1) d_Mo_graphOf_28 (by decide) ?_
          refine mw_iload C d_Mo_graphOf_29 rfl ?_
          refine mw_lshl C d_Mo_graphOf_31 ?_
          refine mw_eql (one_shl (by omega)) ?_
          refine mw_lor C d_Mo_graphOf_32 ?_
          refine mw_goto C 37 d_Mo_graphOf_33 (by decide) ?_
          refine mw_lstore_n C 2 d_Mo_graphOf_37 rfl (by decide) ?_
          refine mw_iincN C d_Mo_graphOf_38 rfl (by decide) ?_
          refine mw_goto C 5 d_Mo_graphOf_41 (by decide) ?_
          refine mw_eq _ _ _ (by exact And.intro rfl (And.intro (by show some (Sum.inr (Sum.inl _)) = _; rw [a_graphN, if_neg (by omega)]) (And.intro rfl (And.intro rfl trivial)))) rfl rfl (ih (i + 1) (by omega))
  refine mw_lconst C (v := 0) d_Mo_graphOf_0 (by decide) ?_
  refine mw_lstore_n C 2 d_Mo_graphOf_1 rfl (by decide) ?_
  refine mw_iconst C (v := nI 0) d_Mo_graphOf_2 (by decide) ?_
  refine mw_istore C d_Mo_graphOf_3 (by decide) ?_
  exact mw_to _ (by exact And.intro rfl (And.intro rfl (And.intro rfl (And.intro rfl (trivial))))) (L 48 0 rfl)
set_option maxHeartbeats 4000000 in
set_option maxRecDepth 100000 in
theorem m_Mo_below (l : Launch) (D : va_G) (cA : Nat → ClassId) (cn fv : Int32) (σ : aS) (node so : Nat) (x : Int64) (S : mw_S) (h : mR cn fv σ S) (hn : node < 4) (hs : so ≤ 1) (h8 : ∀ q, q < 48 → σ.1 8 (48 * node + q) < 80) (hp : ∀ u, σ.1 1 u < 48) (hk : ∀ u, σ.1 2 u < 16) : mw_M false l lw_tbl y_Mo_below b_Mo_below 9 (some .long) { frames := 1, cells := 0, slots := 0, locals := 25 } D vCl cA sh_Mo 22 [.inr (.inr 0), .inl (nI node), .inr (.inl x), .inl (nI so)] (S) (mw_Pl (fun r _ => r = a_below σ node (decide (so = 1)) 48 x)) := by
  refine mw_M_of (by decide) (Nat.le_of_ble_eq_true rfl) ?_
  intro p e s m args below meth c A ad C hR
  have L : ∀ (i : Nat) (y : Int64), i ≤ 47 → a_below σ node (decide (so = 1)) (i + 1) y = a_below σ node (decide (so = 1)) 48 x → mw p l e { frames := 1, cells := 0, slots := 0, locals := 25 } s m args below meth c (MQ below (mw_Qc false D vCl cA ad sh_Mo 22 s.heap.size (S) (mw_Pl (fun r _ => r = a_below σ node (decide (so = 1)) 48 x))) args s 0 0 A) 0 0 D vCl cA A ad sh_Mo 22 9 (7) ([(7, .inl (nI i)), (5, .inr (.inl y)), (0, .inr (.inr 0)), (1, .inl (nI node)), (4, .inl (nI so))]) ([]) (S) := by
    intro i
    induction i with
    | zero =>
      intro y hi hy
      have h8i := h8 0 (by decide)
      refine mw_iload C d_Mo_below_7 rfl ?_
      refine mw_if_ltN C 62 d_Mo_below_9 (by decide) (by omega) ?_
      refine mw_aload_n C 0 d_Mo_below_12 rfl rfl ?_
      refine mw_getr C f_Mo_33 d_Mo_below_13 (by decide) rfl rfl ?_
      refine mw_bipush C (v := nI 48) d_Mo_below_16 (by decide) ?_
      refine mw_iload_n C 1 d_Mo_below_18 rfl rfl ?_
      refine mw_imulN C d_Mo_below_19 ?_
      refine mw_iload C d_Mo_below_20 rfl ?_
      refine mw_iaddN C d_Mo_below_22 ?_
      refine mo_ald C h d_Mo_below_23 (by decide) rfl rfl (by omega) (by decide) ?_
      refine mw_istore C d_Mo_below_24 (by decide) ?_
      refine mw_lload C d_Mo_below_26 rfl ?_
      refine mw_iload C d_Mo_below_28 rfl ?_
      refine mw_lshr C d_Mo_below_30 ?_
      refine mw_lconst C (v := 1) d_Mo_below_31 (by decide) ?_
      refine mw_land C d_Mo_below_32 ?_
      refine mw_lconst C (v := 1) d_Mo_below_33 (by decide) ?_
      refine mw_lcmp C d_Mo_below_34 ?_
      refine mw_if_ne C 56 d_Mo_below_35 (by decide) (fun h35 => ?_) (fun h35 => ?_)
      ·
        refine mw_iinc C d_Mo_below_56 rfl rfl (by decide) ?_
        refine mw_goto C 7 d_Mo_below_59 (by decide) ?_
        refine mw_iload C d_Mo_below_7 rfl ?_
        refine mw_if_lt C 62 d_Mo_below_9 (by decide) (fun _ => ?_) (fun h9 => absurd (by decide) h9)
        refine mw_lload C d_Mo_below_62 rfl ?_
        refine mw_lret C hR d_Mo_below_64 ?_
        have hb : ¬ lb y 0 = true := fun hb => h35 ((lg_cmp_eq _ _).mpr ((lb_is1 y (by decide)).mpr hb))
        rw [← hy, a_below, if_neg (fun h => hb h.1)]
        rfl
      ·
        have hb : lb y 0 = true := (lb_is1 y (by decide)).mp ((lg_cmp_eq _ _).mp h35)
        refine mw_iload C d_Mo_below_38 rfl ?_
        refine mw_if_leN C 56 d_Mo_below_40 (by decide) (by omega) (fun h40 => ?_) (fun h40 => ?_)
        ·
          refine mw_iinc C d_Mo_below_56 rfl rfl (by decide) ?_
          refine mw_goto C 7 d_Mo_below_59 (by decide) ?_
          refine mw_iload C d_Mo_below_7 rfl ?_
          refine mw_if_lt C 62 d_Mo_below_9 (by decide) (fun _ => ?_) (fun h9 => absurd (by decide) h9)
          refine mw_lload C d_Mo_below_62 rfl ?_
          refine mw_lret C hR d_Mo_below_64 ?_
          rw [← hy, a_below, if_neg (fun h => by omega)]
          rfl
        ·
          refine mw_lload C d_Mo_below_43 rfl ?_
          refine mw_aload_n C 0 d_Mo_below_45 rfl rfl ?_
          refine mw_iload C d_Mo_below_46 rfl ?_
          refine mw_iload C d_Mo_below_48 rfl ?_
          refine mw_run0l C ix_Mo (mw_invV C (kk := 0) (m_Mo_points l D cA cn fv σ (σ.1 8 (48 * node + 0)) so _ (mR_rs h) h8i (hp _) (hk _) hs) ix_Mo kb_Mo_147 wm_Mo_points wv_Mo_points (by decide) rfl rfl d_Mo_below_50 rfl rfl (Nat.le_of_ble_eq_true rfl) rfl rfl ⟨by decide, by decide⟩ ⟨Nat.zero_le _, Nat.zero_le _⟩) (fun x50 e50 => ?_)
          subst e50
          refine mw_lor C d_Mo_below_53 ?_
          refine mw_lstore C d_Mo_below_54 (by decide) ?_
          refine mw_iinc C d_Mo_below_56 rfl rfl (by decide) ?_
          refine mw_goto C 7 d_Mo_below_59 (by decide) ?_
          refine mw_iload C d_Mo_below_7 rfl ?_
          refine mw_if_lt C 62 d_Mo_below_9 (by decide) (fun _ => ?_) (fun h9 => absurd (by decide) h9)
          refine mw_lload C d_Mo_below_62 rfl ?_
          refine mw_lret C hR d_Mo_below_64 ?_
          rw [← hy, a_below, if_pos ⟨hb, h40⟩]
          rfl
    | succ i ih =>
      intro y hi hy
      have h8i := h8 (i + 1) (by omega)
      refine mw_iload C d_Mo_below_7 rfl ?_
      refine mw_if_ltN C 62 d_Mo_below_9 (by decide) (by omega) ?_
      refine mw_aload_n C 0 d_Mo_below_12 rfl rfl ?_
      refine mw_getr C f_Mo_33 d_Mo_below_13 (by decide) rfl rfl ?_
      refine mw_bipush C (v := nI 48) d_Mo_below_16 (by decide) ?_
      refine mw_iload_n C 1 d_Mo_below_18 rfl rfl ?_
      refine mw_imulN C d_Mo_below_19 ?_
      refine mw_iload C d_Mo_below_20 rfl ?_
      refine mw_iaddN C d_Mo_below_22 ?_
      refine mo_ald C h d_Mo_below_23 (by decide) rfl rfl (by omega) (by decide) ?_
      refine mw_istore C d_Mo_below_24 (by decide) ?_
      refine mw_lload C d_Mo_below_26 rfl ?_
      refine mw_iload C d_Mo_below_28 rfl ?_
      refine mw_lshr C d_Mo_below_30 ?_
      refine mw_lconst C (v := 1) d_Mo_below_31 (by decide) ?_
      refine mw_land C d_Mo_below_32 ?_
      refine mw_lconst C (v := 1) d_Mo_below_33 (by decide) ?_
      refine mw_lcmp C d_Mo_below_34 ?_
      refine mw_if_ne C 56 d_Mo_below_35 (by decide) (fun h35 => ?_) (fun h35 => ?_)
      ·
        have hb : ¬ lb y (i + 1) = true := fun hb => h35 ((lg_cmp_eq _ _).mpr ((lb_is1 y (by omega)).mpr hb))
        refine mw_idecN C d_Mo_below_56 rfl (by decide) ?_
        refine mw_goto C 7 d_Mo_below_59 (by decide) ?_
        exact mw_to _ (by exact And.intro rfl (And.intro rfl (And.intro rfl (And.intro rfl (And.intro rfl (trivial)))))) (ih y (by omega) (by rw [← hy]; conv => rhs; rw [a_below, if_neg (fun h => hb h.1)]))
      ·
        have hb : lb y (i + 1) = true := (lb_is1 y (by omega)).mp ((lg_cmp_eq _ _).mp h35)
        refine mw_iload C d_Mo_below_38 rfl ?_
        refine mw_if_leN C 56 d_Mo_below_40 (by decide) (by omega) (fun h40 => ?_) (fun h40 => ?_)
        ·
          refine mw_idecN C d_Mo_below_56 rfl (by decide) ?_
          refine mw_goto C 7 d_Mo_below_59 (by decide) ?_
          exact mw_to _ (by exact And.intro rfl (And.intro rfl (And.intro rfl (And.intro rfl (And.intro rfl (trivial)))))) (ih y (by omega) (by rw [← hy]; conv => rhs; rw [a_below, if_neg (fun h => by omega)]))
        ·
          refine mw_lload C d_Mo_below_43 rfl ?_
          refine mw_aload_n C 0 d_Mo_below_45 rfl rfl ?_
          refine mw_iload C d_Mo_below_46 rfl ?_
          refine mw_iload C d_Mo_below_48 rfl ?_
          refine mw_run0l C ix_Mo (mw_invV C (kk := 0) (m_Mo_points l D cA cn fv σ (σ.1 8 (48 * node + (i + 1))) so _ (mR_rs h) h8i (hp _) (hk _) hs) ix_Mo kb_Mo_147 wm_Mo_points wv_Mo_points (by decide) rfl rfl d_Mo_below_50 rfl rfl (Nat.le_of_ble_eq_true rfl) rfl rfl ⟨by decide, by decide⟩ ⟨Nat.zero_le _, Nat.zero_le _⟩) (fun x50 e50 => ?_)
          subst e50
          refine mw_lor C d_Mo_below_53 ?_
          refine mw_lstore C d_Mo_below_54 (by decide) ?_
          refine mw_idecN C d_Mo_below_56 rfl (by decide) ?_
          refine mw_goto C 7 d_Mo_below_59 (by decide) ?_
          exact mw_to _ (by exact And.intro rfl (And.intro rfl (And.intro rfl (And.intro rfl (And.intro rfl (trivial)))))) (ih _ (by omega) (by rw [← hy]; conv => rhs; rw [a_below, if_pos ⟨hb, h40⟩]))
  refine mw_lload_n C 2 d_Mo_below_0 rfl rfl ?_
  refine mw_lstore C d_Mo_below_1 (by decide) ?_
  refine mw_bipush C (v := nI 47) d_Mo_below_3 (by decide) ?_
  refine mw_istore C d_Mo_below_5 (by decide) ?_
  exact mw_to _ (by exact And.intro rfl (And.intro rfl (And.intro rfl (And.intro rfl (And.intro rfl (trivial)))))) (L 47 x (by omega) rfl)
set_option maxHeartbeats 4000000 in
set_option maxRecDepth 100000 in
theorem m_Mo_inRound (l : Launch) (D : va_G) (cA : Nat → ClassId) (cn fv : Int32) (σ : aS) (node r : Nat) (S : mw_S) (h : mR cn fv σ S) (hn : node < 4) (hr : 1 ≤ r) (hr2 : r ≤ 12) (h9 : ∀ j, σ.1 9 j ≤ 1) : mw_M false l lw_tbl y_Mo_inRound b_Mo_inRound 5 (some .int) { frames := 0, cells := 0, slots := 0, locals := 0 } D vCl cA sh_Mo 22 [.inr (.inr 0), .inl (nI node), .inl (nI r)] (S) (mw_Pi (fun z _ => z = nI (a_inR σ node r 4))) := by
  refine mw_M_of (by decide) (Nat.le_of_ble_eq_true rfl) ?_
  intro p e s m args below meth c A ad C hR
  have L : ∀ (dd i : Nat), i + dd = 4 → mw p l e { frames := 0, cells := 0, slots := 0, locals := 0 } s m args below meth c (MQ below (mw_Qc false D vCl cA ad sh_Mo 22 s.heap.size (S) (mw_Pi (fun z _ => z = nI (a_inR σ node r 4)))) args s 0 0 A) 0 0 D vCl cA A ad sh_Mo 22 5 (5) ([(4, .inl (nI i)), (3, .inl (nI (a_inR σ node r i))), (0, .inr (.inr 0)), (1, .inl (nI node)), (2, .inl (nI r))]) ([]) (S) := by
    intro dd
    induction dd with
    | zero =>
      intro i hi
      refine mw_iload C d_Mo_inRound_5 rfl ?_
      refine mw_iconst C (v := nI 4) d_Mo_inRound_7 (by decide) ?_
      refine mw_icmp_geN C 49 d_Mo_inRound_8 (by decide) (by omega) (by omega) (fun h8 => ?_) (fun h8 => ?_)
      ·
        refine mw_iload_n C 3 d_Mo_inRound_49 rfl rfl ?_
        refine mw_iret C hR d_Mo_inRound_50 ?_
        rw [show i = 4 from by omega]
      · exfalso; omega
    | succ dd ih =>
      intro i hi
      have h9i := h9 (48 * node + 4 * (r - 1) + i)
      refine mw_iload C d_Mo_inRound_5 rfl ?_
      refine mw_iconst C (v := nI 4) d_Mo_inRound_7 (by decide) ?_
      refine mw_icmp_geN C 49 d_Mo_inRound_8 (by decide) (by omega) (by omega) (fun h8 => ?_) (fun h8 => ?_)
      · exfalso; omega
      ·
        refine mw_iload_n C 3 d_Mo_inRound_11 rfl rfl ?_
        refine mw_aload_n C 0 d_Mo_inRound_12 rfl rfl ?_
        refine mw_getr C f_Mo_36 d_Mo_inRound_13 (by decide) rfl rfl ?_
        refine mw_bipush C (v := nI 48) d_Mo_inRound_16 (by decide) ?_
        refine mw_iload_n C 1 d_Mo_inRound_18 rfl rfl ?_
        refine mw_imulN C d_Mo_inRound_19 ?_
        refine mw_iconst C (v := nI 4) d_Mo_inRound_20 (by decide) ?_
        refine mw_iload_n C 2 d_Mo_inRound_21 rfl rfl ?_
        refine mw_iconst C (v := nI 1) d_Mo_inRound_22 (by decide) ?_
        refine mw_isubN C d_Mo_inRound_23 (by omega) ?_
        refine mw_imulN C d_Mo_inRound_24 ?_
        refine mw_iaddN C d_Mo_inRound_25 ?_
        refine mw_iload C d_Mo_inRound_26 rfl ?_
        refine mw_iaddN C d_Mo_inRound_28 ?_
        refine mo_zald C h d_Mo_inRound_29 (by decide) rfl rfl (by omega) (by decide) ?_
        refine mw_if_eqN C 40 d_Mo_inRound_30 (by decide) (by omega) (fun h30 => ?_) (fun h30 => ?_)
        ·
          refine mw_iconst C (v := nI 0) d_Mo_inRound_40 (by decide) ?_
          refine mw_iaddN C d_Mo_inRound_41 ?_
          refine mw_istore_n C 3 d_Mo_inRound_42 rfl (by decide) ?_
          refine mw_iincN C d_Mo_inRound_43 rfl (by decide) ?_
          refine mw_goto C 5 d_Mo_inRound_46 (by decide) ?_
          refine mw_eq _ _ _ (by exact And.intro rfl (And.intro (by show some (Sum.inl _) = _; rw [a_inR, if_pos h30]) (And.intro rfl (And.intro rfl (And.intro rfl trivial))))) rfl rfl (ih (i + 1) (by omega))
        ·
          refine mw_iconst C (v := nI 1) d_Mo_inRound_33 (by decide) ?_
          refine mw_iload C d_Mo_inRound_34 rfl ?_
          refine mw_ishl C d_Mo_inRound_36 ?_
          refine mw_eqi (show _ = nI (2 ^ i) from by
            have hpw : 2 ^ i ≤ 2 ^ 4 := Nat.pow_le_pow_right (by decide) (by omega)
            rw [pk_shlN (n := 1) (nI i &&& 31) i (s_l i (by omega)) (by omega), Nat.one_mul]) ?_
          refine mw_goto C 41 d_Mo_inRound_37 (by decide) ?_
          refine mw_iaddN C d_Mo_inRound_41 ?_
          refine mw_istore_n C 3 d_Mo_inRound_42 rfl (by decide) ?_
          refine mw_iincN C d_Mo_inRound_43 rfl (by decide) ?_
          refine mw_goto C 5 d_Mo_inRound_46 (by decide) ?_
          refine mw_eq _ _ _ (by exact And.intro rfl (And.intro (by show some (Sum.inl _) = _; rw [a_inR, if_neg (by omega)]) (And.intro rfl (And.intro rfl (And.intro rfl trivial))))) rfl rfl (ih (i + 1) (by omega))
  refine mw_iconst C (v := nI 0) d_Mo_inRound_0 (by decide) ?_
  refine mw_istore_n C 3 d_Mo_inRound_1 rfl (by decide) ?_
  refine mw_iconst C (v := nI 0) d_Mo_inRound_2 (by decide) ?_
  refine mw_istore C d_Mo_inRound_3 (by decide) ?_
  exact mw_to _ (by exact And.intro rfl (And.intro rfl (And.intro rfl (And.intro rfl (And.intro rfl (trivial)))))) (L 4 0 rfl)
set_option maxHeartbeats 4000000 in
set_option maxRecDepth 100000 in
theorem m_Mo_leader (l : Launch) (D : va_G) (cA : Nat → ClassId) (cn fv : Int32) (σ : aS) (w0 : Nat) (S : mw_S) (h : mR cn fv σ S) (hw : 1 ≤ w0) (hw2 : w0 ≤ 3) : mw_M false l lw_tbl y_Mo_leader b_Mo_leader 2 (some .int) { frames := 0, cells := 0, slots := 0, locals := 0 } D vCl cA sh_Mo 22 [.inr (.inr 0), .inl (nI w0)] (S) (mw_Pi (fun z _ => z = nI (a_lead cn w0))) := by
  refine mw_M_of (by decide) (Nat.le_of_ble_eq_true rfl) ?_
  intro p e s m args below meth c A ad C hR
  refine mw_bipush C (v := nI 16) d_Mo_leader_0 (by decide) ?_
  refine mw_iload_n C 1 d_Mo_leader_2 rfl rfl ?_
  refine mw_iconst C (v := nI 1) d_Mo_leader_3 (by decide) ?_
  refine mw_isubN C d_Mo_leader_4 (by omega) ?_
  refine mw_imulN C d_Mo_leader_5 ?_
  refine mw_aload_n C 0 d_Mo_leader_6 rfl rfl ?_
  refine mo_getC C h f_Mo_79 d_Mo_leader_7 ?_
  refine mw_iconst C (v := nI 2) d_Mo_leader_10 (by decide) ?_
  refine mw_iload_n C 1 d_Mo_leader_11 rfl rfl ?_
  refine mw_iconst C (v := nI 1) d_Mo_leader_12 (by decide) ?_
  refine mw_isubN C d_Mo_leader_13 (by omega) ?_
  refine mw_imulN C d_Mo_leader_14 ?_
  refine mw_ishr C d_Mo_leader_15 ?_
  refine mw_iconst C (v := nI 3) d_Mo_leader_16 (by decide) ?_
  refine mw_iand C d_Mo_leader_17 ?_
  refine mw_eqi (ld_eq cn (t := 2 * (w0 - 1)) (by omega)) ?_
  refine mw_iaddN C d_Mo_leader_18 ?_
  refine mw_iret C hR d_Mo_leader_19 ?_
  rfl
