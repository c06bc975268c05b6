/-! the reference's calls: forge, whisper, and what is read -/
theorem nI_any {x : Int32} (h : ¬ x < 0) : ∃ k, k < 2 ^ 31 ∧ x = nI k := by
  obtain ⟨k, hk, rfl⟩ := nI_of2 (n := 2 ^ 31 - 1) (M := nI (2 ^ 31 - 1)) (by decide) h (by
    rw [Int32.le_iff_toInt_le]
    have := Int32.toInt_lt x
    have e : (nI (2 ^ 31 - 1)).toInt = 2147483647 := by decide
    omega)
  exact ⟨k, by omega, rfl⟩
theorem nI_eqN {a b : Nat} (ha : a < 2 ^ 31) (hb : b < 2 ^ 31) (h : nI a = nI b) : a = b := by
  have h1 := congrArg Int32.toInt h
  rw [nI_toInt ha, nI_toInt hb] at h1
  omega
theorem w48 (x : Int64) : (x.toUInt64 >>> ((nI 48).toInt64.toUInt64 &&& Int64.toUInt64 63)).toInt64 = 0 ↔ x &&& (-281474976710656) = 0 := by
  obtain ⟨z, hz, rfl⟩ := wb_of x
  rw [wb_shr hz (by decide), show (-281474976710656 : Int64) = (lN (2 ^ 48) - 1) ^^^ (-1) from by decide, lb_sub]
  constructor
  · intro h q hq hb
    have h2 : z / 2 ^ 48 = 0 := by
      have h3 := congrArg (fun y : Int64 => y.toBitVec.toNat) h
      have h4 : (lN (z / 2 ^ 48)).toBitVec.toNat = z / 2 ^ 48 := wb_tn (by omega)
      have h5 : (lN (z / 2 ^ 48)).toBitVec.toNat = (0 : Int64).toBitVec.toNat := h3
      rw [h4] at h5
      exact h5
    rw [lb_below (by decide) hq]
    apply decide_eq_true
    apply Nat.lt_of_not_le
    intro hge
    rw [lb_lN, decide_eq_true hq, Bool.true_and] at hb
    have hpw : 2 ^ 48 ≤ 2 ^ q := Nat.pow_le_pow_right (by decide) hge
    rw [Nat.testBit_lt_two_pow (by omega)] at hb
    cases hb
  · intro h
    have h2 : z < 2 ^ 48 := by
      apply Nat.lt_pow_two_of_testBit
      intro i hi
      by_cases h64 : i < 64
      · cases hb : z.testBit i
        · rfl
        · have := h i h64 (by rw [lb_lN, decide_eq_true h64, hb]; rfl)
          rw [lb_below (by decide) h64] at this
          have := of_decide_eq_true this
          omega
      · have hpw : 2 ^ 64 ≤ 2 ^ i := Nat.pow_le_pow_right (by decide) (by omega)
        exact Nat.testBit_lt_two_pow (by omega)
    rw [Nat.div_eq_of_lt h2]
    rfl
def wLt (n : Nat) (x : Int32) : Prop := ∃ k, k < n ∧ x = nI k
theorem wLt_of {x : Int32} {n : Nat} (hn : n < 2 ^ 31) (h1 : ¬ x < 0) (h2 : x < nI n) : wLt n x := by
  obtain ⟨k, hk, rfl⟩ := nI_any h1
  exact ⟨k, (nI_ltI hk hn).mp h2, rfl⟩
theorem nle {x y : Int32} (h : ¬ y ≤ x) : x < y := Int32.not_le.mp h
set_option maxHeartbeats 4000000 in
set_option maxRecDepth 100000 in
theorem m_Mo_forge_1 (l : Launch) (D : va_G) (cA : Nat → ClassId) (cn fv : Int32) (σ : aS) (x1 x2 x4 : Int32) (x3 : Int64) (S : mw_S) (h : mR cn fv σ S) (hno : ¬ (wIn 1 12 x1 ∧ wIn 0 15 x2 ∧ x3 &&& (-281474976710656) = 0 ∧ tOK x4)) : mw_M true l lw_tbl y_Mo_forge b_Mo_forge 7 (some .int) { frames := 2, cells := 0, slots := 0, locals := 42 } D vCl cA sh_Mo 22 [.inr (.inr 0), .inl x1, .inl x2, .inr (.inl x3), .inl x4] (S) (mw_Pi (fun z S' => z = nI 0 ∧ mR cn fv (a_rz (a_rz σ 0) 1) S')) := by
  refine mw_M_of (by decide) (Nat.le_of_ble_eq_true rfl) ?_
  intro p e s m args below meth c A ad C hR
  have F : ∀ S1 : mw_S, mR cn fv (a_rz σ 0) S1 → (tOK x4 → mw p l e { frames := 2, cells := 0, slots := 0, locals := 42 } s m args below meth c (MQ below (mw_Qc true D vCl cA ad sh_Mo 22 s.heap.size (S) (mw_Pi (fun z S' => z = nI 0 ∧ mR cn fv (a_rz (a_rz σ 0) 1) S'))) args s 0 0 A) 0 0 D vCl cA A ad sh_Mo 22 7 (47) ([(6, .inl (nI 1)), (0, .inr (.inr 0)), (1, .inl x1), (2, .inl x2), (3, .inr (.inl x3)), (5, .inl x4)]) ([]) (S1)) → (¬ tOK x4 → mw p l e { frames := 2, cells := 0, slots := 0, locals := 42 } s m args below meth c (MQ below (mw_Qc true D vCl cA ad sh_Mo 22 s.heap.size (S) (mw_Pi (fun z S' => z = nI 0 ∧ mR cn fv (a_rz (a_rz σ 0) 1) S'))) args s 0 0 A) 0 0 D vCl cA A ad sh_Mo 22 7 (47) ([(6, .inl (nI 0)), (0, .inr (.inr 0)), (1, .inl x1), (2, .inl x2), (3, .inr (.inl x3)), (5, .inl x4)]) ([]) (S1)) → mw p l e { frames := 2, cells := 0, slots := 0, locals := 42 } s m args below meth c (MQ below (mw_Qc true D vCl cA ad sh_Mo 22 s.heap.size (S) (mw_Pi (fun z S' => z = nI 0 ∧ mR cn fv (a_rz (a_rz σ 0) 1) S'))) args s 0 0 A) 0 0 D vCl cA A ad sh_Mo 22 7 (5) ([(0, .inr (.inr 0)), (1, .inl x1), (2, .inl x2), (3, .inr (.inl x3)), (5, .inl x4)]) ([]) (S1) := by
    intro S1 h k1 k0
    refine mw_iload C d_Mo_forge_5 rfl ?_
    refine mw_if_eq C 40 d_Mo_forge_7 (by decide) (fun h7 => ?_) (fun h7 => ?_)
    ·
      refine mw_iconst C (v := nI 1) d_Mo_forge_40 (by decide) ?_
      refine mw_goto C 45 d_Mo_forge_41 (by decide) ?_
      refine mw_istore C d_Mo_forge_45 (by decide) ?_
      exact mw_to _ (by exact And.intro rfl (And.intro rfl (And.intro rfl (And.intro rfl (And.intro rfl (And.intro rfl (trivial))))))) (k1 (Or.inl h7))
    ·
      refine mw_iload C d_Mo_forge_10 rfl ?_
      refine mw_if_le C 44 d_Mo_forge_12 (by decide) (fun h12 => ?_) (fun h12 => ?_)
      ·
        refine mw_iconst C (v := nI 0) d_Mo_forge_44 (by decide) ?_
        refine mw_istore C d_Mo_forge_45 (by decide) ?_
        refine mw_to _ (by exact And.intro rfl (And.intro rfl (And.intro rfl (And.intro rfl (And.intro rfl (And.intro rfl (trivial))))))) (k0 (fun hh => ?_))
        rcases hh with hh | ⟨t, rfl, t1, t2, t3, t4⟩
        · exact h7 hh
        · exact absurd h12 (Int32.not_le.mpr (nI_lt (a := 0) (by omega) (by omega)))
      ·
        obtain ⟨t, ht, rfl⟩ := nI_any (fun hlt => h12 (Int32.le_of_lt hlt))
        have ht0 : 0 < t := Nat.pos_of_ne_zero (fun e => h7 (by rw [e]; rfl))
        refine mw_iload C d_Mo_forge_15 rfl ?_
        refine mw_sipush C (v := nI 1000) d_Mo_forge_17 (by decide) ?_
        refine mw_idivN C d_Mo_forge_20 (by omega) (by decide) (by decide) ?_
        refine mw_iload C d_Mo_forge_21 rfl ?_
        refine mw_bipush C (v := nI 10) d_Mo_forge_23 (by decide) ?_
        refine mw_idivN C d_Mo_forge_25 (by omega) (by decide) (by decide) ?_
        refine mw_bipush C (v := nI 100) d_Mo_forge_26 (by decide) ?_
        refine mw_iremN C d_Mo_forge_28 (by omega) (by decide) (by decide) ?_
        refine mw_iload C d_Mo_forge_29 rfl ?_
        refine mw_bipush C (v := nI 10) d_Mo_forge_31 (by decide) ?_
        refine mw_iremN C d_Mo_forge_33 (by omega) (by decide) (by decide) ?_
        refine mw_run0i C (ix0 _ _) (mw_invS C (m_Mo_isTransfer l D cA (nI (t / 1000)) (nI (t / 10 % 100)) (nI (t % 10)) _) (ix0 _ _) kb_Mo_188 ws_Mo_isTransfer d_Mo_forge_34 rfl rfl (Nat.le_of_ble_eq_true rfl) rfl rfl ⟨by decide, by decide⟩ ⟨Nat.zero_le _, Nat.zero_le _⟩) (fun x34 e34 => ?_)
        rcases e34 with ⟨rfl, hk⟩ | ⟨rfl, hk⟩
        ·
          refine mw_if_eqN C 44 d_Mo_forge_37 (by decide) (by omega) (fun h37 => ?_) (fun h37 => ?_)
          · exfalso; omega
          ·
            refine mw_iconst C (v := nI 1) d_Mo_forge_40 (by decide) ?_
            refine mw_goto C 45 d_Mo_forge_41 (by decide) ?_
            refine mw_istore C d_Mo_forge_45 (by decide) ?_
            refine mw_to _ (by exact And.intro rfl (And.intro rfl (And.intro rfl (And.intro rfl (And.intro rfl (And.intro rfl (trivial))))))) (k1 (Or.inr ?_))
            obtain ⟨⟨a, ha, ea⟩, ⟨b, hb, eb⟩, ⟨d, hd1, hd2, ed⟩⟩ := hk
            have ea2 := nI_eqN (by omega) (by omega) ea
            have eb2 := nI_eqN (by omega) (by omega) eb
            have ed2 := nI_eqN (by omega) (by omega) ed
            exact ⟨t, rfl, by omega, by omega, by omega, by omega⟩
        ·
          refine mw_if_eqN C 44 d_Mo_forge_37 (by decide) (by omega) (fun h37 => ?_) (fun h37 => ?_)
          ·
            refine mw_iconst C (v := nI 0) d_Mo_forge_44 (by decide) ?_
            refine mw_istore C d_Mo_forge_45 (by decide) ?_
            refine mw_to _ (by exact And.intro rfl (And.intro rfl (And.intro rfl (And.intro rfl (And.intro rfl (And.intro rfl (trivial))))))) (k0 (fun hh => hk ?_))
            rcases hh with hh | ⟨u, eu, t1, t2, t3, t4⟩
            · exact absurd hh h7
            · have e2 := nI_eqN (by omega) (by omega) eu
              subst e2
              exact ⟨⟨t / 10 % 100, by omega, rfl⟩, ⟨t % 10, by omega, rfl⟩, ⟨t / 1000, by omega, by omega, rfl⟩⟩
          · exfalso; omega
  have R : ∀ S1 : mw_S, mR cn fv (a_rz σ 0) S1 → mw p l e { frames := 2, cells := 0, slots := 0, locals := 42 } s m args below meth c (MQ below (mw_Qc true D vCl cA ad sh_Mo 22 s.heap.size (S) (mw_Pi (fun z S' => z = nI 0 ∧ mR cn fv (a_rz (a_rz σ 0) 1) S'))) args s 0 0 A) 0 0 D vCl cA A ad sh_Mo 22 7 (82) ([(0, .inr (.inr 0))]) ([]) (S1) := by
    intro S1 h
    refine mw_aload_n C 0 d_Mo_forge_82 rfl rfl ?_
    refine mw_iconst C (v := nI 1) d_Mo_forge_83 (by decide) ?_
    refine mo_runi C rfl (mw_invV C (kk := 0) (m_Mo_refuse l D cA cn fv (a_rz σ 0) 1 _ (mR_rs h)) ix_Mo kb_Mo_192 wm_Mo_refuse wv_Mo_refuse (by decide) rfl rfl d_Mo_forge_84 rfl rfl (Nat.le_of_ble_eq_true rfl) rfl rfl ⟨by decide, by decide⟩ ⟨Nat.zero_le _, Nat.zero_le _⟩) (fun S h => ?_)
    refine mw_iret C hR d_Mo_forge_87 ?_
    exact ⟨rfl, h⟩
  have G : ∀ (S1 : mw_S) (z : Nat), mR cn fv (a_rz σ 0) S1 → z ≤ 1 → (z = 1 → tOK x4) → mw p l e { frames := 2, cells := 0, slots := 0, locals := 42 } s m args below meth c (MQ below (mw_Qc true D vCl cA ad sh_Mo 22 s.heap.size (S) (mw_Pi (fun z S' => z = nI 0 ∧ mR cn fv (a_rz (a_rz σ 0) 1) S'))) args s 0 0 A) 0 0 D vCl cA A ad sh_Mo 22 7 (47) ([(6, .inl (nI z)), (0, .inr (.inr 0)), (1, .inl x1), (2, .inl x2), (3, .inr (.inl x3)), (5, .inl x4)]) ([]) (S1) := by
    intro S1 z h hz1 hz
    refine mw_iload_n C 1 d_Mo_forge_47 rfl rfl ?_
    refine mw_iconst C (v := nI 1) d_Mo_forge_48 (by decide) ?_
    refine mw_icmp_lt C 82 d_Mo_forge_49 (by decide) (fun h49 => ?_) (fun h49 => ?_)
    · exact mw_to _ (by exact And.intro rfl (trivial)) (R S1 h)
    ·
      refine mw_iload_n C 1 d_Mo_forge_52 rfl rfl ?_
      refine mw_bipush C (v := nI 12) d_Mo_forge_53 (by decide) ?_
      refine mw_icmp_gt C 82 d_Mo_forge_55 (by decide) (fun h55 => ?_) (fun h55 => ?_)
      · exact mw_to _ (by exact And.intro rfl (trivial)) (R S1 h)
      ·
        refine mw_iload_n C 2 d_Mo_forge_58 rfl rfl ?_
        refine mw_if_lt C 82 d_Mo_forge_59 (by decide) (fun h59 => ?_) (fun h59 => ?_)
        · exact mw_to _ (by exact And.intro rfl (trivial)) (R S1 h)
        ·
          refine mw_iload_n C 2 d_Mo_forge_62 rfl rfl ?_
          refine mw_bipush C (v := nI 15) d_Mo_forge_63 (by decide) ?_
          refine mw_icmp_gt C 82 d_Mo_forge_65 (by decide) (fun h65 => ?_) (fun h65 => ?_)
          · exact mw_to _ (by exact And.intro rfl (trivial)) (R S1 h)
          ·
            refine mw_lload_n C 3 d_Mo_forge_68 rfl rfl ?_
            refine mw_bipush C (v := nI 48) d_Mo_forge_69 (by decide) ?_
            refine mw_lushr C d_Mo_forge_71 ?_
            refine mw_lconst C (v := 0) d_Mo_forge_72 (by decide) ?_
            refine mw_lcmp C d_Mo_forge_73 ?_
            refine mw_if_ne C 82 d_Mo_forge_74 (by decide) (fun h74 => ?_) (fun h74 => ?_)
            · exact mw_to _ (by exact And.intro rfl (trivial)) (R S1 h)
            ·
              refine mw_iload C d_Mo_forge_77 rfl ?_
              refine mw_if_neN C 88 d_Mo_forge_79 (by decide) (by omega) (fun h79 => ?_) (fun h79 => ?_)
              · exact absurd ⟨wIn_of (by decide) h49 (Int32.not_lt.mp h55), wIn0_of (by decide) h59 (Int32.not_lt.mp h65), (w48 x3).mp ((lg_cmp_eq _ _).mp h74), hz (by omega)⟩ hno
              · exact mw_to _ (by exact And.intro rfl (trivial)) (R S1 h)
  refine mw_aload_n C 0 d_Mo_forge_0 rfl rfl ?_
  refine mw_iconst C (v := nI 0) d_Mo_forge_1 (by decide) ?_
  refine mo_put C rfl h f_Mo_85 p_Mo_0 d_Mo_forge_2 rfl rfl (fun S h => ?_)
  exact mw_to _ (by exact And.intro rfl (And.intro rfl (And.intro rfl (And.intro rfl (And.intro rfl (trivial)))))) (F S h (fun hk => G S 1 h (by decide) (fun _ => hk)) (fun hk => G S 0 h (by decide) (fun h => by omega)))
set_option maxHeartbeats 4000000 in
set_option maxRecDepth 100000 in
theorem m_Mo_forge_2 (l : Launch) (D : va_G) (cA : Nat → ClassId) (cn fv : Int32) (σ : aS) (fy r k : Nat) (x4 : Int32) (x3 : Int64) (S : mw_S) (h : mR cn fv σ S) (hfy : fyR fv fy) (hr1 : 1 ≤ r) (hr2 : r ≤ 12) (hk : k ≤ 15) (h3 : x3 &&& (-281474976710656) = 0) (h4 : tOK x4) (hfo : σ.1 0 10 ≤ 24) (hbad : fy = 4 ∨ σ.1 0 10 = 24) : mw_M true l lw_tbl y_Mo_forge b_Mo_forge 7 (some .int) { frames := 2, cells := 0, slots := 0, locals := 42 } D vCl cA sh_Mo 22 [.inr (.inr 0), .inl (nI r), .inl (nI k), .inr (.inl x3), .inl x4] (S) (mw_Pi (fun z S' => z = nI 0 ∧ mR cn fv (a_rz (a_rz σ 0) 2) S')) := by
  refine mw_M_of (by decide) (Nat.le_of_ble_eq_true rfl) ?_
  intro p e s m args below meth c A ad C hR
  have F : ∀ S1 : mw_S, mR cn fv (a_rz σ 0) S1 → (tOK x4 → mw p l e { frames := 2, cells := 0, slots := 0, locals := 42 } s m args below meth c (MQ below (mw_Qc true D vCl cA ad sh_Mo 22 s.heap.size (S) (mw_Pi (fun z S' => z = nI 0 ∧ mR cn fv (a_rz (a_rz σ 0) 2) S'))) args s 0 0 A) 0 0 D vCl cA A ad sh_Mo 22 7 (47) ([(6, .inl (nI 1)), (0, .inr (.inr 0)), (1, .inl (nI r)), (2, .inl (nI k)), (3, .inr (.inl x3)), (5, .inl x4)]) ([]) (S1)) → (¬ tOK x4 → mw p l e { frames := 2, cells := 0, slots := 0, locals := 42 } s m args below meth c (MQ below (mw_Qc true D vCl cA ad sh_Mo 22 s.heap.size (S) (mw_Pi (fun z S' => z = nI 0 ∧ mR cn fv (a_rz (a_rz σ 0) 2) S'))) args s 0 0 A) 0 0 D vCl cA A ad sh_Mo 22 7 (47) ([(6, .inl (nI 0)), (0, .inr (.inr 0)), (1, .inl (nI r)), (2, .inl (nI k)), (3, .inr (.inl x3)), (5, .inl x4)]) ([]) (S1)) → mw p l e { frames := 2, cells := 0, slots := 0, locals := 42 } s m args below meth c (MQ below (mw_Qc true D vCl cA ad sh_Mo 22 s.heap.size (S) (mw_Pi (fun z S' => z = nI 0 ∧ mR cn fv (a_rz (a_rz σ 0) 2) S'))) args s 0 0 A) 0 0 D vCl cA A ad sh_Mo 22 7 (5) ([(0, .inr (.inr 0)), (1, .inl (nI r)), (2, .inl (nI k)), (3, .inr (.inl x3)), (5, .inl x4)]) ([]) (S1) := by
    intro S1 h k1 k0
    refine mw_iload C d_Mo_forge_5 rfl ?_
    refine mw_if_eq C 40 d_Mo_forge_7 (by decide) (fun h7 => ?_) (fun h7 => ?_)
    ·
      refine mw_iconst C (v := nI 1) d_Mo_forge_40 (by decide) ?_
      refine mw_goto C 45 d_Mo_forge_41 (by decide) ?_
      refine mw_istore C d_Mo_forge_45 (by decide) ?_
      exact mw_to _ (by exact And.intro rfl (And.intro rfl (And.intro rfl (And.intro rfl (And.intro rfl (And.intro rfl (trivial))))))) (k1 (Or.inl h7))
    ·
      refine mw_iload C d_Mo_forge_10 rfl ?_
      refine mw_if_le C 44 d_Mo_forge_12 (by decide) (fun h12 => ?_) (fun h12 => ?_)
      ·
        refine mw_iconst C (v := nI 0) d_Mo_forge_44 (by decide) ?_
        refine mw_istore C d_Mo_forge_45 (by decide) ?_
        refine mw_to _ (by exact And.intro rfl (And.intro rfl (And.intro rfl (And.intro rfl (And.intro rfl (And.intro rfl (trivial))))))) (k0 (fun hh => ?_))
        rcases hh with hh | ⟨t, rfl, t1, t2, t3, t4⟩
        · exact h7 hh
        · exact absurd h12 (Int32.not_le.mpr (nI_lt (a := 0) (by omega) (by omega)))
      ·
        obtain ⟨t, ht, rfl⟩ := nI_any (fun hlt => h12 (Int32.le_of_lt hlt))
        have ht0 : 0 < t := Nat.pos_of_ne_zero (fun e => h7 (by rw [e]; rfl))
        refine mw_iload C d_Mo_forge_15 rfl ?_
        refine mw_sipush C (v := nI 1000) d_Mo_forge_17 (by decide) ?_
        refine mw_idivN C d_Mo_forge_20 (by omega) (by decide) (by decide) ?_
        refine mw_iload C d_Mo_forge_21 rfl ?_
        refine mw_bipush C (v := nI 10) d_Mo_forge_23 (by decide) ?_
        refine mw_idivN C d_Mo_forge_25 (by omega) (by decide) (by decide) ?_
        refine mw_bipush C (v := nI 100) d_Mo_forge_26 (by decide) ?_
        refine mw_iremN C d_Mo_forge_28 (by omega) (by decide) (by decide) ?_
        refine mw_iload C d_Mo_forge_29 rfl ?_
        refine mw_bipush C (v := nI 10) d_Mo_forge_31 (by decide) ?_
        refine mw_iremN C d_Mo_forge_33 (by omega) (by decide) (by decide) ?_
        refine mw_run0i C (ix0 _ _) (mw_invS C (m_Mo_isTransfer l D cA (nI (t / 1000)) (nI (t / 10 % 100)) (nI (t % 10)) _) (ix0 _ _) kb_Mo_188 ws_Mo_isTransfer d_Mo_forge_34 rfl rfl (Nat.le_of_ble_eq_true rfl) rfl rfl ⟨by decide, by decide⟩ ⟨Nat.zero_le _, Nat.zero_le _⟩) (fun x34 e34 => ?_)
        rcases e34 with ⟨rfl, hk⟩ | ⟨rfl, hk⟩
        ·
          refine mw_if_eqN C 44 d_Mo_forge_37 (by decide) (by omega) (fun h37 => ?_) (fun h37 => ?_)
          · exfalso; omega
          ·
            refine mw_iconst C (v := nI 1) d_Mo_forge_40 (by decide) ?_
            refine mw_goto C 45 d_Mo_forge_41 (by decide) ?_
            refine mw_istore C d_Mo_forge_45 (by decide) ?_
            refine mw_to _ (by exact And.intro rfl (And.intro rfl (And.intro rfl (And.intro rfl (And.intro rfl (And.intro rfl (trivial))))))) (k1 (Or.inr ?_))
            obtain ⟨⟨a, ha, ea⟩, ⟨b, hb, eb⟩, ⟨d, hd1, hd2, ed⟩⟩ := hk
            have ea2 := nI_eqN (by omega) (by omega) ea
            have eb2 := nI_eqN (by omega) (by omega) eb
            have ed2 := nI_eqN (by omega) (by omega) ed
            exact ⟨t, rfl, by omega, by omega, by omega, by omega⟩
        ·
          refine mw_if_eqN C 44 d_Mo_forge_37 (by decide) (by omega) (fun h37 => ?_) (fun h37 => ?_)
          ·
            refine mw_iconst C (v := nI 0) d_Mo_forge_44 (by decide) ?_
            refine mw_istore C d_Mo_forge_45 (by decide) ?_
            refine mw_to _ (by exact And.intro rfl (And.intro rfl (And.intro rfl (And.intro rfl (And.intro rfl (And.intro rfl (trivial))))))) (k0 (fun hh => hk ?_))
            rcases hh with hh | ⟨u, eu, t1, t2, t3, t4⟩
            · exact absurd hh h7
            · have e2 := nI_eqN (by omega) (by omega) eu
              subst e2
              exact ⟨⟨t / 10 % 100, by omega, rfl⟩, ⟨t % 10, by omega, rfl⟩, ⟨t / 1000, by omega, by omega, rfl⟩⟩
          · exfalso; omega
  have G : ∀ (S1 : mw_S), mR cn fv (a_rz σ 0) S1 → mw p l e { frames := 2, cells := 0, slots := 0, locals := 42 } s m args below meth c (MQ below (mw_Qc true D vCl cA ad sh_Mo 22 s.heap.size (S) (mw_Pi (fun z S' => z = nI 0 ∧ mR cn fv (a_rz (a_rz σ 0) 2) S'))) args s 0 0 A) 0 0 D vCl cA A ad sh_Mo 22 7 (88) ([(0, .inr (.inr 0)), (1, .inl (nI r)), (2, .inl (nI k)), (3, .inr (.inl x3)), (5, .inl x4)]) ([]) (S1) := by
    intro S1 h
    have R : mw p l e { frames := 2, cells := 0, slots := 0, locals := 42 } s m args below meth c (MQ below (mw_Qc true D vCl cA ad sh_Mo 22 s.heap.size (S) (mw_Pi (fun z S' => z = nI 0 ∧ mR cn fv (a_rz (a_rz σ 0) 2) S'))) args s 0 0 A) 0 0 D vCl cA A ad sh_Mo 22 7 (107) ([(0, .inr (.inr 0))]) ([]) (S1) := by
      refine mw_aload_n C 0 d_Mo_forge_107 rfl rfl ?_
      refine mw_iconst C (v := nI 2) d_Mo_forge_108 (by decide) ?_
      refine mo_runi C rfl (mw_invV C (kk := 0) (m_Mo_refuse l D cA cn fv (a_rz σ 0) 2 _ (mR_rs h)) ix_Mo kb_Mo_192 wm_Mo_refuse wv_Mo_refuse (by decide) rfl rfl d_Mo_forge_109 rfl rfl (Nat.le_of_ble_eq_true rfl) rfl rfl ⟨by decide, by decide⟩ ⟨Nat.zero_le _, Nat.zero_le _⟩) (fun S h => ?_)
      refine mw_iret C hR d_Mo_forge_112 ?_
      exact ⟨rfl, h⟩
    refine mw_aload_n C 0 d_Mo_forge_88 rfl rfl ?_
    refine mo_getF C h f_Mo_82 d_Mo_forge_89 ?_
    refine mw_run0i C (ix0 _ _) (mw_invS C (m_Mo_isNode l D cA fv _) (ix0 _ _) kb_Mo_88 ws_Mo_isNode d_Mo_forge_92 rfl rfl (Nat.le_of_ble_eq_true rfl) rfl rfl ⟨by decide, by decide⟩ ⟨Nat.zero_le _, Nat.zero_le _⟩) (fun x92 e92 => ?_)
    rcases e92 with ⟨rfl, hn⟩ | ⟨rfl, hn⟩
    ·
      refine mw_if_eqN C 107 d_Mo_forge_95 (by decide) (by omega) (fun h95 => ?_) (fun h95 => ?_)
      · exfalso; omega
      ·
        refine mw_aload_n C 0 d_Mo_forge_98 rfl rfl ?_
        refine mo_get C h f_Mo_201 d_Mo_forge_99 rfl rfl ?_
        refine mw_eqi (show _ = nI (σ.1 0 10) from rfl) ?_
        refine mw_bipush C (v := nI 24) d_Mo_forge_102 (by decide) ?_
        refine mw_icmp_neN C 113 d_Mo_forge_104 (by decide) (by omega) (by omega) (fun h104 => ?_) (fun h104 => ?_)
        ·
          rcases hfy with ⟨hy, -⟩ | ⟨-, hy⟩
          · exfalso; omega
          · exact absurd hn hy
        · exact mw_to _ (by exact And.intro rfl (trivial)) R
    ·
      refine mw_if_eqN C 107 d_Mo_forge_95 (by decide) (by omega) (fun h95 => ?_) (fun h95 => ?_)
      · exact mw_to _ (by exact And.intro rfl (trivial)) R
      · exfalso; omega
  refine mw_aload_n C 0 d_Mo_forge_0 rfl rfl ?_
  refine mw_iconst C (v := nI 0) d_Mo_forge_1 (by decide) ?_
  refine mo_put C rfl h f_Mo_85 p_Mo_0 d_Mo_forge_2 rfl rfl (fun S h => ?_)
  refine mw_to _ (by exact And.intro rfl (And.intro rfl (And.intro rfl (And.intro rfl (And.intro rfl (trivial)))))) (F S h (fun _ => ?_) (fun hh => absurd h4 hh))
  refine mw_iload_n C 1 d_Mo_forge_47 rfl rfl ?_
  refine mw_iconst C (v := nI 1) d_Mo_forge_48 (by decide) ?_
  refine mw_icmp_ltN C 82 d_Mo_forge_49 (by decide) (by omega) (by omega) (fun h49 => ?_) (fun h49 => ?_)
  · exfalso; omega
  ·
    refine mw_iload_n C 1 d_Mo_forge_52 rfl rfl ?_
    refine mw_bipush C (v := nI 12) d_Mo_forge_53 (by decide) ?_
    refine mw_icmp_gtN C 82 d_Mo_forge_55 (by decide) (by omega) (by omega) (fun h55 => ?_) (fun h55 => ?_)
    · exfalso; omega
    ·
      refine mw_iload_n C 2 d_Mo_forge_58 rfl rfl ?_
      refine mw_if_ltN C 82 d_Mo_forge_59 (by decide) (by omega) ?_
      refine mw_iload_n C 2 d_Mo_forge_62 rfl rfl ?_
      refine mw_bipush C (v := nI 15) d_Mo_forge_63 (by decide) ?_
      refine mw_icmp_gtN C 82 d_Mo_forge_65 (by decide) (by omega) (by omega) (fun h65 => ?_) (fun h65 => ?_)
      · exfalso; omega
      ·
        refine mw_lload_n C 3 d_Mo_forge_68 rfl rfl ?_
        refine mw_bipush C (v := nI 48) d_Mo_forge_69 (by decide) ?_
        refine mw_lushr C d_Mo_forge_71 ?_
        refine mw_lconst C (v := 0) d_Mo_forge_72 (by decide) ?_
        refine mw_lcmp C d_Mo_forge_73 ?_
        refine mw_if_ne C 82 d_Mo_forge_74 (by decide) (fun h74 => ?_) (fun h74 => ?_)
        · exact absurd ((lg_cmp_eq _ _).mpr ((w48 x3).mpr h3)) h74
        ·
          refine mw_iload C d_Mo_forge_77 rfl ?_
          refine mw_if_neN C 88 d_Mo_forge_79 (by decide) (by omega) (fun h79 => ?_) (fun h79 => ?_)
          · exact mw_to _ (by exact And.intro rfl (And.intro rfl (And.intro rfl (And.intro rfl (And.intro rfl (trivial)))))) (G S h)
          · exfalso; omega
set_option maxHeartbeats 4000000 in
set_option maxRecDepth 100000 in
theorem m_Mo_forge_0 (l : Launch) (D : va_G) (cA : Nat → ClassId) (cn fv : Int32) (σ : aS) (fy r k : Nat) (x4 : Int32) (x3 : Int64) (S : mw_S) (h : mR cn fv σ S) (hfy : fyR fv fy) (hr1 : 1 ≤ r) (hr2 : r ≤ 12) (hk : k ≤ 15) (h3 : x3 &&& (-281474976710656) = 0) (h4 : tOK x4) (hfo : σ.1 0 10 ≤ 24) (hgood : fy < 4) (hfg : σ.1 0 10 < 24) (hvs : σ.1 0 5 < 79) (t : Nat) (hx4 : x4 = nI t) : mw_M true l lw_tbl y_Mo_forge b_Mo_forge 7 (some .int) { frames := 2, cells := 0, slots := 0, locals := 42 } D vCl cA sh_Mo 22 [.inr (.inr 0), .inl (nI r), .inl (nI k), .inr (.inl x3), .inl x4] (S) (mw_Pi (fun z S' => z = nI (σ.1 0 5 + 1) ∧ mR cn fv (a_newV (a_up (a_rz σ 0) 0 10 (σ.1 0 10 + 1)) (4 * (r - 1) + fy) k x3 t) S')) := by
  refine mw_M_of (by decide) (Nat.le_of_ble_eq_true rfl) ?_
  intro p e s m args below meth c A ad C hR
  have F : ∀ S1 : mw_S, mR cn fv (a_rz σ 0) S1 → (tOK x4 → mw p l e { frames := 2, cells := 0, slots := 0, locals := 42 } s m args below meth c (MQ below (mw_Qc true D vCl cA ad sh_Mo 22 s.heap.size (S) (mw_Pi (fun z S' => z = nI (σ.1 0 5 + 1) ∧ mR cn fv (a_newV (a_up (a_rz σ 0) 0 10 (σ.1 0 10 + 1)) (4 * (r - 1) + fy) k x3 t) S'))) args s 0 0 A) 0 0 D vCl cA A ad sh_Mo 22 7 (47) ([(6, .inl (nI 1)), (0, .inr (.inr 0)), (1, .inl (nI r)), (2, .inl (nI k)), (3, .inr (.inl x3)), (5, .inl x4)]) ([]) (S1)) → (¬ tOK x4 → mw p l e { frames := 2, cells := 0, slots := 0, locals := 42 } s m args below meth c (MQ below (mw_Qc true D vCl cA ad sh_Mo 22 s.heap.size (S) (mw_Pi (fun z S' => z = nI (σ.1 0 5 + 1) ∧ mR cn fv (a_newV (a_up (a_rz σ 0) 0 10 (σ.1 0 10 + 1)) (4 * (r - 1) + fy) k x3 t) S'))) args s 0 0 A) 0 0 D vCl cA A ad sh_Mo 22 7 (47) ([(6, .inl (nI 0)), (0, .inr (.inr 0)), (1, .inl (nI r)), (2, .inl (nI k)), (3, .inr (.inl x3)), (5, .inl x4)]) ([]) (S1)) → mw p l e { frames := 2, cells := 0, slots := 0, locals := 42 } s m args below meth c (MQ below (mw_Qc true D vCl cA ad sh_Mo 22 s.heap.size (S) (mw_Pi (fun z S' => z = nI (σ.1 0 5 + 1) ∧ mR cn fv (a_newV (a_up (a_rz σ 0) 0 10 (σ.1 0 10 + 1)) (4 * (r - 1) + fy) k x3 t) S'))) args s 0 0 A) 0 0 D vCl cA A ad sh_Mo 22 7 (5) ([(0, .inr (.inr 0)), (1, .inl (nI r)), (2, .inl (nI k)), (3, .inr (.inl x3)), (5, .inl x4)]) ([]) (S1) := by
    intro S1 h k1 k0
    refine mw_iload C d_Mo_forge_5 rfl ?_
    refine mw_if_eq C 40 d_Mo_forge_7 (by decide) (fun h7 => ?_) (fun h7 => ?_)
    ·
      refine mw_iconst C (v := nI 1) d_Mo_forge_40 (by decide) ?_
      refine mw_goto C 45 d_Mo_forge_41 (by decide) ?_
      refine mw_istore C d_Mo_forge_45 (by decide) ?_
      exact mw_to _ (by exact And.intro rfl (And.intro rfl (And.intro rfl (And.intro rfl (And.intro rfl (And.intro rfl (trivial))))))) (k1 (Or.inl h7))
    ·
      refine mw_iload C d_Mo_forge_10 rfl ?_
      refine mw_if_le C 44 d_Mo_forge_12 (by decide) (fun h12 => ?_) (fun h12 => ?_)
      ·
        refine mw_iconst C (v := nI 0) d_Mo_forge_44 (by decide) ?_
        refine mw_istore C d_Mo_forge_45 (by decide) ?_
        refine mw_to _ (by exact And.intro rfl (And.intro rfl (And.intro rfl (And.intro rfl (And.intro rfl (And.intro rfl (trivial))))))) (k0 (fun hh => ?_))
        rcases hh with hh | ⟨t, rfl, t1, t2, t3, t4⟩
        · exact h7 hh
        · exact absurd h12 (Int32.not_le.mpr (nI_lt (a := 0) (by omega) (by omega)))
      ·
        obtain ⟨t, ht, rfl⟩ := nI_any (fun hlt => h12 (Int32.le_of_lt hlt))
        have ht0 : 0 < t := Nat.pos_of_ne_zero (fun e => h7 (by rw [e]; rfl))
        refine mw_iload C d_Mo_forge_15 rfl ?_
        refine mw_sipush C (v := nI 1000) d_Mo_forge_17 (by decide) ?_
        refine mw_idivN C d_Mo_forge_20 (by omega) (by decide) (by decide) ?_
        refine mw_iload C d_Mo_forge_21 rfl ?_
        refine mw_bipush C (v := nI 10) d_Mo_forge_23 (by decide) ?_
        refine mw_idivN C d_Mo_forge_25 (by omega) (by decide) (by decide) ?_
        refine mw_bipush C (v := nI 100) d_Mo_forge_26 (by decide) ?_
        refine mw_iremN C d_Mo_forge_28 (by omega) (by decide) (by decide) ?_
        refine mw_iload C d_Mo_forge_29 rfl ?_
        refine mw_bipush C (v := nI 10) d_Mo_forge_31 (by decide) ?_
        refine mw_iremN C d_Mo_forge_33 (by omega) (by decide) (by decide) ?_
        refine mw_run0i C (ix0 _ _) (mw_invS C (m_Mo_isTransfer l D cA (nI (t / 1000)) (nI (t / 10 % 100)) (nI (t % 10)) _) (ix0 _ _) kb_Mo_188 ws_Mo_isTransfer d_Mo_forge_34 rfl rfl (Nat.le_of_ble_eq_true rfl) rfl rfl ⟨by decide, by decide⟩ ⟨Nat.zero_le _, Nat.zero_le _⟩) (fun x34 e34 => ?_)
        rcases e34 with ⟨rfl, hk⟩ | ⟨rfl, hk⟩
        ·
          refine mw_if_eqN C 44 d_Mo_forge_37 (by decide) (by omega) (fun h37 => ?_) (fun h37 => ?_)
          · exfalso; omega
          ·
            refine mw_iconst C (v := nI 1) d_Mo_forge_40 (by decide) ?_
            refine mw_goto C 45 d_Mo_forge_41 (by decide) ?_
            refine mw_istore C d_Mo_forge_45 (by decide) ?_
            refine mw_to _ (by exact And.intro rfl (And.intro rfl (And.intro rfl (And.intro rfl (And.intro rfl (And.intro rfl (trivial))))))) (k1 (Or.inr ?_))
            obtain ⟨⟨a, ha, ea⟩, ⟨b, hb, eb⟩, ⟨d, hd1, hd2, ed⟩⟩ := hk
            have ea2 := nI_eqN (by omega) (by omega) ea
            have eb2 := nI_eqN (by omega) (by omega) eb
            have ed2 := nI_eqN (by omega) (by omega) ed
            exact ⟨t, rfl, by omega, by omega, by omega, by omega⟩
        ·
          refine mw_if_eqN C 44 d_Mo_forge_37 (by decide) (by omega) (fun h37 => ?_) (fun h37 => ?_)
          ·
            refine mw_iconst C (v := nI 0) d_Mo_forge_44 (by decide) ?_
            refine mw_istore C d_Mo_forge_45 (by decide) ?_
            refine mw_to _ (by exact And.intro rfl (And.intro rfl (And.intro rfl (And.intro rfl (And.intro rfl (And.intro rfl (trivial))))))) (k0 (fun hh => hk ?_))
            rcases hh with hh | ⟨u, eu, t1, t2, t3, t4⟩
            · exact absurd hh h7
            · have e2 := nI_eqN (by omega) (by omega) eu
              subst e2
              exact ⟨⟨t / 10 % 100, by omega, rfl⟩, ⟨t % 10, by omega, rfl⟩, ⟨t / 1000, by omega, by omega, rfl⟩⟩
          · exfalso; omega
  have G : ∀ (S1 : mw_S), mR cn fv (a_rz σ 0) S1 → mw p l e { frames := 2, cells := 0, slots := 0, locals := 42 } s m args below meth c (MQ below (mw_Qc true D vCl cA ad sh_Mo 22 s.heap.size (S) (mw_Pi (fun z S' => z = nI (σ.1 0 5 + 1) ∧ mR cn fv (a_newV (a_up (a_rz σ 0) 0 10 (σ.1 0 10 + 1)) (4 * (r - 1) + fy) k x3 t) S'))) args s 0 0 A) 0 0 D vCl cA A ad sh_Mo 22 7 (88) ([(0, .inr (.inr 0)), (1, .inl (nI r)), (2, .inl (nI k)), (3, .inr (.inl x3)), (5, .inl x4)]) ([]) (S1) := by
    intro S1 h
    rcases hfy with ⟨hy, rfl⟩ | ⟨hy, -⟩
    ·
      refine mw_aload_n C 0 d_Mo_forge_88 rfl rfl ?_
      refine mo_getF C h f_Mo_82 d_Mo_forge_89 ?_
      refine mw_run0i C (ix0 _ _) (mw_invS C (m_Mo_isNode l D cA (nI fy) _) (ix0 _ _) kb_Mo_88 ws_Mo_isNode d_Mo_forge_92 rfl rfl (Nat.le_of_ble_eq_true rfl) rfl rfl ⟨by decide, by decide⟩ ⟨Nat.zero_le _, Nat.zero_le _⟩) (fun x92 e92 => ?_)
      rcases e92 with ⟨rfl, hn⟩ | ⟨rfl, hn⟩
      ·
        refine mw_if_eqN C 107 d_Mo_forge_95 (by decide) (by omega) (fun h95 => ?_) (fun h95 => ?_)
        · exfalso; omega
        ·
          refine mw_aload_n C 0 d_Mo_forge_98 rfl rfl ?_
          refine mo_get C h f_Mo_201 d_Mo_forge_99 rfl rfl ?_
          refine mw_eqi (show _ = nI (σ.1 0 10) from rfl) ?_
          refine mw_bipush C (v := nI 24) d_Mo_forge_102 (by decide) ?_
          refine mw_icmp_neN C 113 d_Mo_forge_104 (by decide) (by omega) (by omega) (fun h104 => ?_) (fun h104 => ?_)
          ·
            refine mw_aload_n C 0 d_Mo_forge_113 rfl rfl ?_
            refine mw_dup C d_Mo_forge_114 rfl ?_
            refine mo_get C h f_Mo_201 d_Mo_forge_115 rfl rfl ?_
            refine mw_eqi (show _ = nI (σ.1 0 10) from rfl) ?_
            refine mw_iconst C (v := nI 1) d_Mo_forge_118 (by decide) ?_
            refine mw_iaddN C d_Mo_forge_119 ?_
            refine mo_put C rfl h f_Mo_201 p_Mo_10 d_Mo_forge_120 rfl rfl (fun S h => ?_)
            refine mw_aload_n C 0 d_Mo_forge_123 rfl rfl ?_
            refine mw_iconst C (v := nI 4) d_Mo_forge_124 (by decide) ?_
            refine mw_iload_n C 1 d_Mo_forge_125 rfl rfl ?_
            refine mw_iconst C (v := nI 1) d_Mo_forge_126 (by decide) ?_
            refine mw_isubN C d_Mo_forge_127 (by omega) ?_
            refine mw_imulN C d_Mo_forge_128 ?_
            refine mw_aload_n C 0 d_Mo_forge_129 rfl rfl ?_
            refine mo_getF C h f_Mo_82 d_Mo_forge_130 ?_
            refine mw_iaddN C d_Mo_forge_133 ?_
            refine mw_iload_n C 2 d_Mo_forge_134 rfl rfl ?_
            refine mw_lload_n C 3 d_Mo_forge_135 rfl rfl ?_
            refine mw_iload C d_Mo_forge_136 rfl ?_
            subst hx4
            refine mo_runi C rfl (mw_invV C (kk := 0) (m_Mo_newVertex l D cA cn (nI fy) _ (4 * (r - 1) + fy) k t x3 _ (mR_rs h) hvs) ix_Mo kb_Mo_175 wm_Mo_newVertex wv_Mo_newVertex (by decide) rfl rfl d_Mo_forge_138 rfl rfl (Nat.le_of_ble_eq_true rfl) rfl rfl ⟨by decide, by decide⟩ ⟨Nat.zero_le _, Nat.zero_le _⟩) (fun S h => ?_)
            refine mw_iret C hR d_Mo_forge_141 ?_
            exact ⟨rfl, h⟩
          · exfalso; omega
      · exact absurd ⟨fy, hy, rfl⟩ hn
    · exfalso; omega
  refine mw_aload_n C 0 d_Mo_forge_0 rfl rfl ?_
  refine mw_iconst C (v := nI 0) d_Mo_forge_1 (by decide) ?_
  refine mo_put C rfl h f_Mo_85 p_Mo_0 d_Mo_forge_2 rfl rfl (fun S h => ?_)
  refine mw_to _ (by exact And.intro rfl (And.intro rfl (And.intro rfl (And.intro rfl (And.intro rfl (trivial)))))) (F S h (fun _ => ?_) (fun hh => absurd h4 hh))
  refine mw_iload_n C 1 d_Mo_forge_47 rfl rfl ?_
  refine mw_iconst C (v := nI 1) d_Mo_forge_48 (by decide) ?_
  refine mw_icmp_ltN C 82 d_Mo_forge_49 (by decide) (by omega) (by omega) (fun h49 => ?_) (fun h49 => ?_)
  · exfalso; omega
  ·
    refine mw_iload_n C 1 d_Mo_forge_52 rfl rfl ?_
    refine mw_bipush C (v := nI 12) d_Mo_forge_53 (by decide) ?_
    refine mw_icmp_gtN C 82 d_Mo_forge_55 (by decide) (by omega) (by omega) (fun h55 => ?_) (fun h55 => ?_)
    · exfalso; omega
    ·
      refine mw_iload_n C 2 d_Mo_forge_58 rfl rfl ?_
      refine mw_if_ltN C 82 d_Mo_forge_59 (by decide) (by omega) ?_
      refine mw_iload_n C 2 d_Mo_forge_62 rfl rfl ?_
      refine mw_bipush C (v := nI 15) d_Mo_forge_63 (by decide) ?_
      refine mw_icmp_gtN C 82 d_Mo_forge_65 (by decide) (by omega) (by omega) (fun h65 => ?_) (fun h65 => ?_)
      · exfalso; omega
      ·
        refine mw_lload_n C 3 d_Mo_forge_68 rfl rfl ?_
        refine mw_bipush C (v := nI 48) d_Mo_forge_69 (by decide) ?_
        refine mw_lushr C d_Mo_forge_71 ?_
        refine mw_lconst C (v := 0) d_Mo_forge_72 (by decide) ?_
        refine mw_lcmp C d_Mo_forge_73 ?_
        refine mw_if_ne C 82 d_Mo_forge_74 (by decide) (fun h74 => ?_) (fun h74 => ?_)
        · exact absurd ((lg_cmp_eq _ _).mpr ((w48 x3).mpr h3)) h74
        ·
          refine mw_iload C d_Mo_forge_77 rfl ?_
          refine mw_if_neN C 88 d_Mo_forge_79 (by decide) (by omega) (fun h79 => ?_) (fun h79 => ?_)
          · exact mw_to _ (by exact And.intro rfl (And.intro rfl (And.intro rfl (And.intro rfl (And.intro rfl (trivial)))))) (G S h)
          · exfalso; omega
set_option maxHeartbeats 4000000 in
set_option maxRecDepth 100000 in
theorem m_Mo_whisper_1 (l : Launch) (D : va_G) (cA : Nat → ClassId) (cn fv : Int32) (σ : aS) (fy : Nat) (x1 x2 x3 : Int32) (S : mw_S) (h : mR cn fv σ S) (hfy : fyR fv fy) (hvs : σ.1 0 5 < 79) (hno : ¬ (wIn 0 2 x1 ∧ wActM fy x2 ∧ wIn 1 (σ.1 0 5) x3)) : mw_M true l lw_tbl y_Mo_whisper b_Mo_whisper 4 (some .int) { frames := 3, cells := 0, slots := 0, locals := 65 } D vCl cA sh_Mo 22 [.inr (.inr 0), .inl x1, .inl x2, .inl x3] (S) (mw_Pi (fun z S' => z = nI 0 ∧ mR cn fv (a_rz (a_rz σ 0) 1) S')) := by
  refine mw_M_of (by decide) (Nat.le_of_ble_eq_true rfl) ?_
  intro p e s m args below meth c A ad C hR
  have R : ∀ S1 : mw_S, mR cn fv (a_rz σ 0) S1 → mw p l e { frames := 3, cells := 0, slots := 0, locals := 65 } s m args below meth c (MQ below (mw_Qc true D vCl cA ad sh_Mo 22 s.heap.size (S) (mw_Pi (fun z S' => z = nI 0 ∧ mR cn fv (a_rz (a_rz σ 0) 1) S'))) args s 0 0 A) 0 0 D vCl cA A ad sh_Mo 22 4 (42) ([(0, .inr (.inr 0))]) ([]) (S1) := by
    intro S1 h
    refine mw_aload_n C 0 d_Mo_whisper_42 rfl rfl ?_
    refine mw_iconst C (v := nI 1) d_Mo_whisper_43 (by decide) ?_
    refine mo_runi C rfl (mw_invV C (kk := 0) (m_Mo_refuse l D cA cn fv (a_rz σ 0) 1 _ (mR_rs h)) ix_Mo kb_Mo_192 wm_Mo_refuse wv_Mo_refuse (by decide) rfl rfl d_Mo_whisper_44 rfl rfl (Nat.le_of_ble_eq_true rfl) rfl rfl ⟨by decide, by decide⟩ ⟨Nat.zero_le _, Nat.zero_le _⟩) (fun S h => ?_)
    refine mw_iret C hR d_Mo_whisper_47 ?_
    exact ⟨rfl, h⟩
  refine mw_aload_n C 0 d_Mo_whisper_0 rfl rfl ?_
  refine mw_iconst C (v := nI 0) d_Mo_whisper_1 (by decide) ?_
  refine mo_put C rfl h f_Mo_85 p_Mo_0 d_Mo_whisper_2 rfl rfl (fun S h => ?_)
  refine mw_iload_n C 1 d_Mo_whisper_5 rfl rfl ?_
  refine mw_if_lt C 42 d_Mo_whisper_6 (by decide) (fun h6 => ?_) (fun h6 => ?_)
  · exact mw_to _ (by exact And.intro rfl (trivial)) (R S h)
  ·
    refine mw_iload_n C 1 d_Mo_whisper_9 rfl rfl ?_
    refine mw_iconst C (v := nI 2) d_Mo_whisper_10 (by decide) ?_
    refine mw_icmp_gt C 42 d_Mo_whisper_11 (by decide) (fun h11 => ?_) (fun h11 => ?_)
    · exact mw_to _ (by exact And.intro rfl (trivial)) (R S h)
    ·
      refine mw_iload_n C 2 d_Mo_whisper_14 rfl rfl ?_
      refine mw_run0i C (ix0 _ _) (mw_invS C (m_Mo_isNode l D cA x2 _) (ix0 _ _) kb_Mo_88 ws_Mo_isNode d_Mo_whisper_15 rfl rfl (Nat.le_of_ble_eq_true rfl) rfl rfl ⟨by decide, by decide⟩ ⟨Nat.zero_le _, Nat.zero_le _⟩) (fun x15 e15 => ?_)
      rcases e15 with ⟨rfl, hn⟩ | ⟨rfl, hn⟩
      ·
        obtain ⟨k2, hk2, rfl⟩ := hn
        refine mw_if_eqN C 42 d_Mo_whisper_18 (by decide) (by omega) (fun h18 => ?_) (fun h18 => ?_)
        · exfalso; omega
        ·
          refine mw_aload_n C 0 d_Mo_whisper_21 rfl rfl ?_
          refine mw_iload_n C 2 d_Mo_whisper_22 rfl rfl ?_
          refine mw_run0i C ix_Mo (mw_invV C (kk := 0) (m_Mo_isFaulty l D cA cn fv _ fy k2 _ (mR_rs h) hfy hk2) ix_Mo kb_Mo_93 wm_Mo_isFaulty wv_Mo_isFaulty (by decide) rfl rfl d_Mo_whisper_23 rfl rfl (Nat.le_of_ble_eq_true rfl) rfl rfl ⟨by decide, by decide⟩ ⟨Nat.zero_le _, Nat.zero_le _⟩) (fun x23 e23 => ?_)
          subst e23
          by_cases he : k2 = fy
          ·
            rw [if_pos he]
            refine mw_if_neN C 42 d_Mo_whisper_26 (by decide) (by omega) (fun h26 => ?_) (fun h26 => ?_)
            · exact mw_to _ (by exact And.intro rfl (trivial)) (R S h)
            · exfalso; omega
          ·
            rw [if_neg he]
            refine mw_if_neN C 42 d_Mo_whisper_26 (by decide) (by omega) (fun h26 => ?_) (fun h26 => ?_)
            · exfalso; omega
            ·
              refine mw_iload_n C 3 d_Mo_whisper_29 rfl rfl ?_
              refine mw_iconst C (v := nI 1) d_Mo_whisper_30 (by decide) ?_
              refine mw_icmp_lt C 42 d_Mo_whisper_31 (by decide) (fun h31 => ?_) (fun h31 => ?_)
              · exact mw_to _ (by exact And.intro rfl (trivial)) (R S h)
              ·
                refine mw_iload_n C 3 d_Mo_whisper_34 rfl rfl ?_
                refine mw_aload_n C 0 d_Mo_whisper_35 rfl rfl ?_
                refine mo_get C h f_Mo_165 d_Mo_whisper_36 rfl rfl ?_
                refine mw_eqi (show _ = nI (σ.1 0 5) from rfl) ?_
                refine mw_icmp_le C 48 d_Mo_whisper_39 (by decide) (fun h39 => ?_) (fun h39 => ?_)
                · exact absurd ⟨wIn0_of (by decide) h6 (Int32.not_lt.mp h11), ⟨k2, hk2, rfl, he⟩, wIn_of (by omega) h31 h39⟩ hno
                · exact mw_to _ (by exact And.intro rfl (trivial)) (R S h)
      ·
        refine mw_if_eqN C 42 d_Mo_whisper_18 (by decide) (by omega) (fun h18 => ?_) (fun h18 => ?_)
        · exact mw_to _ (by exact And.intro rfl (trivial)) (R S h)
        · exfalso; omega
set_option maxHeartbeats 4000000 in
set_option maxRecDepth 100000 in
theorem m_Mo_whisper_2 (l : Launch) (D : va_G) (cA : Nat → ClassId) (cn fv : Int32) (σ : aS) (fy kd k2 v : Nat) (S : mw_S) (h : mR cn fv σ S) (hfy : fyR fv fy) (hkd : kd ≤ 2) (hk2 : k2 < 4) (he : ¬ k2 = fy) (hv1 : 1 ≤ v) (hv2 : v ≤ σ.1 0 5) (hvs : σ.1 0 5 < 79) (hbad : fy = 4) : mw_M true l lw_tbl y_Mo_whisper b_Mo_whisper 4 (some .int) { frames := 3, cells := 0, slots := 0, locals := 65 } D vCl cA sh_Mo 22 [.inr (.inr 0), .inl (nI kd), .inl (nI k2), .inl (nI v)] (S) (mw_Pi (fun z S' => z = nI 0 ∧ mR cn fv (a_rz (a_rz σ 0) 2) S')) := by
  refine mw_M_of (by decide) (Nat.le_of_ble_eq_true rfl) ?_
  intro p e s m args below meth c A ad C hR
  refine mw_aload_n C 0 d_Mo_whisper_0 rfl rfl ?_
  refine mw_iconst C (v := nI 0) d_Mo_whisper_1 (by decide) ?_
  refine mo_put C rfl h f_Mo_85 p_Mo_0 d_Mo_whisper_2 rfl rfl (fun S h => ?_)
  refine mw_iload_n C 1 d_Mo_whisper_5 rfl rfl ?_
  refine mw_if_ltN C 42 d_Mo_whisper_6 (by decide) (by omega) ?_
  refine mw_iload_n C 1 d_Mo_whisper_9 rfl rfl ?_
  refine mw_iconst C (v := nI 2) d_Mo_whisper_10 (by decide) ?_
  refine mw_icmp_gtN C 42 d_Mo_whisper_11 (by decide) (by omega) (by omega) (fun h11 => ?_) (fun h11 => ?_)
  · exfalso; omega
  ·
    refine mw_iload_n C 2 d_Mo_whisper_14 rfl rfl ?_
    refine mw_run0i C (ix0 _ _) (mw_invS C (m_Mo_isNode l D cA (nI k2) _) (ix0 _ _) kb_Mo_88 ws_Mo_isNode d_Mo_whisper_15 rfl rfl (Nat.le_of_ble_eq_true rfl) rfl rfl ⟨by decide, by decide⟩ ⟨Nat.zero_le _, Nat.zero_le _⟩) (fun x15 e15 => ?_)
    rcases e15 with ⟨rfl, hn⟩ | ⟨rfl, hn⟩
    ·
      refine mw_if_eqN C 42 d_Mo_whisper_18 (by decide) (by omega) (fun h18 => ?_) (fun h18 => ?_)
      · exfalso; omega
      ·
        refine mw_aload_n C 0 d_Mo_whisper_21 rfl rfl ?_
        refine mw_iload_n C 2 d_Mo_whisper_22 rfl rfl ?_
        refine mw_run0i C ix_Mo (mw_invV C (kk := 0) (m_Mo_isFaulty l D cA cn fv _ fy k2 _ (mR_rs h) hfy hk2) ix_Mo kb_Mo_93 wm_Mo_isFaulty wv_Mo_isFaulty (by decide) rfl rfl d_Mo_whisper_23 rfl rfl (Nat.le_of_ble_eq_true rfl) rfl rfl ⟨by decide, by decide⟩ ⟨Nat.zero_le _, Nat.zero_le _⟩) (fun x23 e23 => ?_)
        subst e23
        rw [if_neg he]
        refine mw_if_neN C 42 d_Mo_whisper_26 (by decide) (by omega) (fun h26 => ?_) (fun h26 => ?_)
        · exfalso; omega
        ·
          refine mw_iload_n C 3 d_Mo_whisper_29 rfl rfl ?_
          refine mw_iconst C (v := nI 1) d_Mo_whisper_30 (by decide) ?_
          refine mw_icmp_ltN C 42 d_Mo_whisper_31 (by decide) (by omega) (by omega) (fun h31 => ?_) (fun h31 => ?_)
          · exfalso; omega
          ·
            refine mw_iload_n C 3 d_Mo_whisper_34 rfl rfl ?_
            refine mw_aload_n C 0 d_Mo_whisper_35 rfl rfl ?_
            refine mo_get C h f_Mo_165 d_Mo_whisper_36 rfl rfl ?_
            refine mw_eqi (show _ = nI (σ.1 0 5) from rfl) ?_
            refine mw_icmp_leN C 48 d_Mo_whisper_39 (by decide) (by omega) (by omega) (fun h39 => ?_) (fun h39 => ?_)
            ·
              refine mw_aload_n C 0 d_Mo_whisper_48 rfl rfl ?_
              refine mo_getF C h f_Mo_82 d_Mo_whisper_49 ?_
              refine mw_run0i C (ix0 _ _) (mw_invS C (m_Mo_isNode l D cA fv _) (ix0 _ _) kb_Mo_88 ws_Mo_isNode d_Mo_whisper_52 rfl rfl (Nat.le_of_ble_eq_true rfl) rfl rfl ⟨by decide, by decide⟩ ⟨Nat.zero_le _, Nat.zero_le _⟩) (fun x52 e52 => ?_)
              rcases e52 with ⟨rfl, hn⟩ | ⟨rfl, hn⟩
              ·
                rcases hfy with ⟨hy, -⟩ | ⟨-, hy⟩
                · exfalso; omega
                · exact absurd hn hy
              ·
                refine mw_if_neN C 64 d_Mo_whisper_55 (by decide) (by omega) (fun h55 => ?_) (fun h55 => ?_)
                · exfalso; omega
                ·
                  refine mw_aload_n C 0 d_Mo_whisper_58 rfl rfl ?_
                  refine mw_iconst C (v := nI 2) d_Mo_whisper_59 (by decide) ?_
                  refine mo_runi C rfl (mw_invV C (kk := 0) (m_Mo_refuse l D cA cn fv (a_rz σ 0) 2 _ (mR_rs h)) ix_Mo kb_Mo_192 wm_Mo_refuse wv_Mo_refuse (by decide) rfl rfl d_Mo_whisper_60 rfl rfl (Nat.le_of_ble_eq_true rfl) rfl rfl ⟨by decide, by decide⟩ ⟨Nat.zero_le _, Nat.zero_le _⟩) (fun S h => ?_)
                  refine mw_iret C hR d_Mo_whisper_63 ?_
                  exact ⟨rfl, h⟩
            · exfalso; omega
    · exact absurd ⟨k2, hk2, rfl⟩ hn
set_option maxHeartbeats 4000000 in
set_option maxRecDepth 100000 in
theorem m_Mo_whisper_0 (l : Launch) (D : va_G) (cA : Nat → ClassId) (cn fv : Int32) (σ : aS) (fy kd k2 v : Nat) (S : mw_S) (h : mR cn fv σ S) (hfy : fyR fv fy) (hkd : kd ≤ 2) (hk2 : k2 < 4) (he : ¬ k2 = fy) (hv1 : 1 ≤ v) (hv2 : v ≤ σ.1 0 5) (hvs : σ.1 0 5 < 79) (hgood : fy < 4) (hm : σ.1 0 12 < 2400) : mw_M true l lw_tbl y_Mo_whisper b_Mo_whisper 4 (some .int) { frames := 3, cells := 0, slots := 0, locals := 65 } D vCl cA sh_Mo 22 [.inr (.inr 0), .inl (nI kd), .inl (nI k2), .inl (nI v)] (S) (mw_Pi (fun z S' => z = nI (σ.1 0 12 + 1) ∧ mR cn fv (a_send fy (a_rz σ 0) kd fy k2 v) S')) := by
  refine mw_M_of (by decide) (Nat.le_of_ble_eq_true rfl) ?_
  intro p e s m args below meth c A ad C hR
  refine mw_aload_n C 0 d_Mo_whisper_0 rfl rfl ?_
  refine mw_iconst C (v := nI 0) d_Mo_whisper_1 (by decide) ?_
  refine mo_put C rfl h f_Mo_85 p_Mo_0 d_Mo_whisper_2 rfl rfl (fun S h => ?_)
  refine mw_iload_n C 1 d_Mo_whisper_5 rfl rfl ?_
  refine mw_if_ltN C 42 d_Mo_whisper_6 (by decide) (by omega) ?_
  refine mw_iload_n C 1 d_Mo_whisper_9 rfl rfl ?_
  refine mw_iconst C (v := nI 2) d_Mo_whisper_10 (by decide) ?_
  refine mw_icmp_gtN C 42 d_Mo_whisper_11 (by decide) (by omega) (by omega) (fun h11 => ?_) (fun h11 => ?_)
  · exfalso; omega
  ·
    refine mw_iload_n C 2 d_Mo_whisper_14 rfl rfl ?_
    refine mw_run0i C (ix0 _ _) (mw_invS C (m_Mo_isNode l D cA (nI k2) _) (ix0 _ _) kb_Mo_88 ws_Mo_isNode d_Mo_whisper_15 rfl rfl (Nat.le_of_ble_eq_true rfl) rfl rfl ⟨by decide, by decide⟩ ⟨Nat.zero_le _, Nat.zero_le _⟩) (fun x15 e15 => ?_)
    rcases e15 with ⟨rfl, hn⟩ | ⟨rfl, hn⟩
    ·
      refine mw_if_eqN C 42 d_Mo_whisper_18 (by decide) (by omega) (fun h18 => ?_) (fun h18 => ?_)
      · exfalso; omega
      ·
        refine mw_aload_n C 0 d_Mo_whisper_21 rfl rfl ?_
        refine mw_iload_n C 2 d_Mo_whisper_22 rfl rfl ?_
        refine mw_run0i C ix_Mo (mw_invV C (kk := 0) (m_Mo_isFaulty l D cA cn fv _ fy k2 _ (mR_rs h) hfy hk2) ix_Mo kb_Mo_93 wm_Mo_isFaulty wv_Mo_isFaulty (by decide) rfl rfl d_Mo_whisper_23 rfl rfl (Nat.le_of_ble_eq_true rfl) rfl rfl ⟨by decide, by decide⟩ ⟨Nat.zero_le _, Nat.zero_le _⟩) (fun x23 e23 => ?_)
        subst e23
        rw [if_neg he]
        refine mw_if_neN C 42 d_Mo_whisper_26 (by decide) (by omega) (fun h26 => ?_) (fun h26 => ?_)
        · exfalso; omega
        ·
          refine mw_iload_n C 3 d_Mo_whisper_29 rfl rfl ?_
          refine mw_iconst C (v := nI 1) d_Mo_whisper_30 (by decide) ?_
          refine mw_icmp_ltN C 42 d_Mo_whisper_31 (by decide) (by omega) (by omega) (fun h31 => ?_) (fun h31 => ?_)
          · exfalso; omega
          ·
            refine mw_iload_n C 3 d_Mo_whisper_34 rfl rfl ?_
            refine mw_aload_n C 0 d_Mo_whisper_35 rfl rfl ?_
            refine mo_get C h f_Mo_165 d_Mo_whisper_36 rfl rfl ?_
            refine mw_eqi (show _ = nI (σ.1 0 5) from rfl) ?_
            refine mw_icmp_leN C 48 d_Mo_whisper_39 (by decide) (by omega) (by omega) (fun h39 => ?_) (fun h39 => ?_)
            ·
              rcases hfy with ⟨hy, rfl⟩ | ⟨hy, -⟩
              ·
                refine mw_aload_n C 0 d_Mo_whisper_48 rfl rfl ?_
                refine mo_getF C h f_Mo_82 d_Mo_whisper_49 ?_
                refine mw_run0i C (ix0 _ _) (mw_invS C (m_Mo_isNode l D cA (nI fy) _) (ix0 _ _) kb_Mo_88 ws_Mo_isNode d_Mo_whisper_52 rfl rfl (Nat.le_of_ble_eq_true rfl) rfl rfl ⟨by decide, by decide⟩ ⟨Nat.zero_le _, Nat.zero_le _⟩) (fun x52 e52 => ?_)
                rcases e52 with ⟨rfl, hn⟩ | ⟨rfl, hn⟩
                ·
                  refine mw_if_neN C 64 d_Mo_whisper_55 (by decide) (by omega) (fun h55 => ?_) (fun h55 => ?_)
                  ·
                    refine mw_aload_n C 0 d_Mo_whisper_64 rfl rfl ?_
                    refine mw_iload_n C 1 d_Mo_whisper_65 rfl rfl ?_
                    refine mw_aload_n C 0 d_Mo_whisper_66 rfl rfl ?_
                    refine mo_getF C h f_Mo_82 d_Mo_whisper_67 ?_
                    refine mw_iload_n C 2 d_Mo_whisper_70 rfl rfl ?_
                    refine mw_iload_n C 3 d_Mo_whisper_71 rfl rfl ?_
                    refine mo_runv C rfl (mw_invV C (kk := 0) (m_Mo_sendOne l D cA cn (nI fy) (a_rz σ 0) fy kd fy k2 v _ (mR_rs h) (Or.inl ⟨hy, rfl⟩) (by omega) hy hk2 (by omega) hm) ix_Mo kb_Mo_99 wm_Mo_sendOne wv_Mo_sendOne (by decide) rfl rfl d_Mo_whisper_72 rfl rfl (Nat.le_of_ble_eq_true rfl) rfl rfl ⟨by decide, by decide⟩ ⟨Nat.zero_le _, Nat.zero_le _⟩) (fun S h => ?_)
                    refine mw_aload_n C 0 d_Mo_whisper_75 rfl rfl ?_
                    refine mo_get C h f_Mo_96 d_Mo_whisper_76 rfl rfl ?_
                    refine mw_eqi (show _ = nI (σ.1 0 12 + 1) from by unfold a_send; rw [if_neg he, a_up_s]; rfl) ?_
                    refine mw_iret C hR d_Mo_whisper_79 ?_
                    exact ⟨rfl, h⟩
                  · exfalso; omega
                · exact absurd ⟨fy, hy, rfl⟩ hn
              · exfalso; omega
            · exfalso; omega
    · exact absurd ⟨k2, hk2, rfl⟩ hn
def a_part (m j : Nat) : Nat := if j = 0 then m / 1280 else if j = 1 then m / 320 % 4 else if j = 2 then m / 80 % 4 else m % 80
set_option maxHeartbeats 4000000 in
set_option maxRecDepth 100000 in
theorem m_Mo_message_1 (l : Launch) (D : va_G) (cA : Nat → ClassId) (cn fv : Int32) (σ : aS) (x1 x2 : Int32) (S : mw_S) (h : mR cn fv σ S) (hm : σ.1 0 12 ≤ 2400) (hno : ¬ (wLt (σ.1 0 12) x1 ∧ wIn 0 3 x2)) : mw_M true l lw_tbl y_Mo_message b_Mo_message 4 (some .int) { frames := 0, cells := 0, slots := 0, locals := 0 } D vCl cA sh_Mo 22 [.inr (.inr 0), .inl x1, .inl x2] (S) (mw_Pi (fun z S' => z = -1 ∧ mR cn fv (a_rz σ 0) S')) := by
  refine mw_M_of (by decide) (Nat.le_of_ble_eq_true rfl) ?_
  intro p e s m args below meth c A ad C hR
  have R : ∀ S1 : mw_S, mR cn fv (a_rz σ 0) S1 → mw p l e { frames := 0, cells := 0, slots := 0, locals := 0 } s m args below meth c (MQ below (mw_Qc true D vCl cA ad sh_Mo 22 s.heap.size (S) (mw_Pi (fun z S' => z = -1 ∧ mR cn fv (a_rz σ 0) S'))) args s 0 0 A) 0 0 D vCl cA A ad sh_Mo 22 4 (26) ([(0, .inr (.inr 0))]) ([]) (S1) := by
    intro S1 h
    refine mw_iconst C (v := (-1)) d_Mo_message_26 (by decide) ?_
    refine mw_iret C hR d_Mo_message_27 ?_
    exact ⟨rfl, h⟩
  refine mw_aload_n C 0 d_Mo_message_0 rfl rfl ?_
  refine mw_iconst C (v := nI 0) d_Mo_message_1 (by decide) ?_
  refine mo_put C rfl h f_Mo_85 p_Mo_0 d_Mo_message_2 rfl rfl (fun S h => ?_)
  refine mw_iload_n C 1 d_Mo_message_5 rfl rfl ?_
  refine mw_if_lt C 26 d_Mo_message_6 (by decide) (fun h6 => ?_) (fun h6 => ?_)
  · exact mw_to _ (by exact And.intro rfl (trivial)) (R S h)
  ·
    refine mw_iload_n C 1 d_Mo_message_9 rfl rfl ?_
    refine mw_aload_n C 0 d_Mo_message_10 rfl rfl ?_
    refine mo_get C h f_Mo_96 d_Mo_message_11 rfl rfl ?_
    refine mw_eqi (show _ = nI (σ.1 0 12) from rfl) ?_
    refine mw_icmp_ge C 26 d_Mo_message_14 (by decide) (fun h14 => ?_) (fun h14 => ?_)
    · exact mw_to _ (by exact And.intro rfl (trivial)) (R S h)
    ·
      refine mw_iload_n C 2 d_Mo_message_17 rfl rfl ?_
      refine mw_if_lt C 26 d_Mo_message_18 (by decide) (fun h18 => ?_) (fun h18 => ?_)
      · exact mw_to _ (by exact And.intro rfl (trivial)) (R S h)
      ·
        refine mw_iload_n C 2 d_Mo_message_21 rfl rfl ?_
        refine mw_iconst C (v := nI 3) d_Mo_message_22 (by decide) ?_
        refine mw_icmp_le C 28 d_Mo_message_23 (by decide) (fun h23 => ?_) (fun h23 => ?_)
        · exact absurd ⟨wLt_of (by omega) h6 (nle h14), wIn0_of (by decide) h18 h23⟩ hno
        · exact mw_to _ (by exact And.intro rfl (trivial)) (R S h)
set_option maxHeartbeats 4000000 in
set_option maxRecDepth 100000 in
theorem m_Mo_message_0 (l : Launch) (D : va_G) (cA : Nat → ClassId) (cn fv : Int32) (σ : aS) (k j : Nat) (S : mw_S) (h : mR cn fv σ S) (hm : σ.1 0 12 ≤ 2400) (hk : k < σ.1 0 12) (hj : j ≤ 3) (hw : σ.1 5 k < 3840) : mw_M true l lw_tbl y_Mo_message b_Mo_message 4 (some .int) { frames := 0, cells := 0, slots := 0, locals := 0 } D vCl cA sh_Mo 22 [.inr (.inr 0), .inl (nI k), .inl (nI j)] (S) (mw_Pi (fun z S' => z = nI (a_part (σ.1 5 k) j) ∧ mR cn fv (a_rz σ 0) S')) := by
  refine mw_M_of (by decide) (Nat.le_of_ble_eq_true rfl) ?_
  intro p e s m args below meth c A ad C hR
  refine mw_aload_n C 0 d_Mo_message_0 rfl rfl ?_
  refine mw_iconst C (v := nI 0) d_Mo_message_1 (by decide) ?_
  refine mo_put C rfl h f_Mo_85 p_Mo_0 d_Mo_message_2 rfl rfl (fun S h => ?_)
  refine mw_iload_n C 1 d_Mo_message_5 rfl rfl ?_
  refine mw_if_ltN C 26 d_Mo_message_6 (by decide) (by omega) ?_
  refine mw_iload_n C 1 d_Mo_message_9 rfl rfl ?_
  refine mw_aload_n C 0 d_Mo_message_10 rfl rfl ?_
  refine mo_get C h f_Mo_96 d_Mo_message_11 rfl rfl ?_
  refine mw_eqi (show _ = nI (σ.1 0 12) from rfl) ?_
  refine mw_icmp_geN C 26 d_Mo_message_14 (by decide) (by omega) (by omega) (fun h14 => ?_) (fun h14 => ?_)
  · exfalso; omega
  ·
    refine mw_iload_n C 2 d_Mo_message_17 rfl rfl ?_
    refine mw_if_ltN C 26 d_Mo_message_18 (by decide) (by omega) ?_
    refine mw_iload_n C 2 d_Mo_message_21 rfl rfl ?_
    refine mw_iconst C (v := nI 3) d_Mo_message_22 (by decide) ?_
    refine mw_icmp_leN C 28 d_Mo_message_23 (by decide) (by omega) (by omega) (fun h23 => ?_) (fun h23 => ?_)
    ·
      refine mw_aload_n C 0 d_Mo_message_28 rfl rfl ?_
      refine mw_getr C f_Mo_23 d_Mo_message_29 (by decide) rfl rfl ?_
      refine mw_iload_n C 1 d_Mo_message_32 rfl rfl ?_
      refine mo_ald C h d_Mo_message_33 (by decide) rfl rfl (by omega) (by decide) ?_
      refine mw_eqi (show _ = nI (σ.1 5 k) from rfl) ?_
      refine mw_istore_n C 3 d_Mo_message_34 rfl (by decide) ?_
      refine mw_iload_n C 2 d_Mo_message_35 rfl rfl ?_
      refine mw_if_neN C 47 d_Mo_message_36 (by decide) (by omega) (fun h36 => ?_) (fun h36 => ?_)
      ·
        refine mw_iload_n C 2 d_Mo_message_47 rfl rfl ?_
        refine mw_iconst C (v := nI 1) d_Mo_message_48 (by decide) ?_
        refine mw_icmp_neN C 62 d_Mo_message_49 (by decide) (by omega) (by omega) (fun h49 => ?_) (fun h49 => ?_)
        ·
          refine mw_iload_n C 2 d_Mo_message_62 rfl rfl ?_
          refine mw_iconst C (v := nI 2) d_Mo_message_63 (by decide) ?_
          refine mw_icmp_neN C 76 d_Mo_message_64 (by decide) (by omega) (by omega) (fun h64 => ?_) (fun h64 => ?_)
          ·
            refine mw_iload_n C 3 d_Mo_message_76 rfl rfl ?_
            refine mw_bipush C (v := nI 80) d_Mo_message_77 (by decide) ?_
            refine mw_iremN C d_Mo_message_79 (by omega) (by decide) (by decide) ?_
            refine mw_iret C hR d_Mo_message_80 ?_
            refine ⟨?_, h⟩
            unfold a_part
            rw [if_neg (by omega), if_neg (by omega), if_neg (by omega)]
          ·
            refine mw_iload_n C 3 d_Mo_message_67 rfl rfl ?_
            refine mw_bipush C (v := nI 80) d_Mo_message_68 (by decide) ?_
            refine mw_idivN C d_Mo_message_70 (by omega) (by decide) (by decide) ?_
            refine mw_iconst C (v := nI 4) d_Mo_message_71 (by decide) ?_
            refine mw_iremN C d_Mo_message_72 (by omega) (by decide) (by decide) ?_
            refine mw_goto C 80 d_Mo_message_73 (by decide) ?_
            refine mw_iret C hR d_Mo_message_80 ?_
            refine ⟨?_, h⟩
            unfold a_part
            rw [if_neg (by omega), if_neg (by omega), if_pos (by omega)]
        ·
          refine mw_iload_n C 3 d_Mo_message_52 rfl rfl ?_
          refine mw_sipush C (v := nI 320) d_Mo_message_53 (by decide) ?_
          refine mw_idivN C d_Mo_message_56 (by omega) (by decide) (by decide) ?_
          refine mw_iconst C (v := nI 4) d_Mo_message_57 (by decide) ?_
          refine mw_iremN C d_Mo_message_58 (by omega) (by decide) (by decide) ?_
          refine mw_goto C 80 d_Mo_message_59 (by decide) ?_
          refine mw_iret C hR d_Mo_message_80 ?_
          refine ⟨?_, h⟩
          unfold a_part
          rw [if_neg (by omega), if_pos (by omega)]
      ·
        refine mw_iload_n C 3 d_Mo_message_39 rfl rfl ?_
        refine mw_sipush C (v := nI 1280) d_Mo_message_40 (by decide) ?_
        refine mw_idivN C d_Mo_message_43 (by omega) (by decide) (by decide) ?_
        refine mw_goto C 80 d_Mo_message_44 (by decide) ?_
        refine mw_iret C hR d_Mo_message_80 ?_
        refine ⟨?_, h⟩
        unfold a_part
        rw [if_pos (by omega)]
    · exfalso; omega
set_option maxHeartbeats 4000000 in
set_option maxRecDepth 100000 in
theorem m_Mo_vertex_1 (l : Launch) (D : va_G) (cA : Nat → ClassId) (cn fv : Int32) (σ : aS) (x1 x2 : Int32) (S : mw_S) (h : mR cn fv σ S) (hvs : σ.1 0 5 < 79) (hno : ¬ (wIn 1 (σ.1 0 5) x1 ∧ wIn 0 2 x2)) : mw_M true l lw_tbl y_Mo_vertex b_Mo_vertex 3 (some .int) { frames := 0, cells := 0, slots := 0, locals := 0 } D vCl cA sh_Mo 22 [.inr (.inr 0), .inl x1, .inl x2] (S) (mw_Pi (fun z S' => z = -1 ∧ mR cn fv (a_rz σ 0) S')) := by
  refine mw_M_of (by decide) (Nat.le_of_ble_eq_true rfl) ?_
  intro p e s m args below meth c A ad C hR
  have R : ∀ S1 : mw_S, mR cn fv (a_rz σ 0) S1 → mw p l e { frames := 0, cells := 0, slots := 0, locals := 0 } s m args below meth c (MQ below (mw_Qc true D vCl cA ad sh_Mo 22 s.heap.size (S) (mw_Pi (fun z S' => z = -1 ∧ mR cn fv (a_rz σ 0) S'))) args s 0 0 A) 0 0 D vCl cA A ad sh_Mo 22 3 (27) ([(0, .inr (.inr 0))]) ([]) (S1) := by
    intro S1 h
    refine mw_iconst C (v := (-1)) d_Mo_vertex_27 (by decide) ?_
    refine mw_iret C hR d_Mo_vertex_28 ?_
    exact ⟨rfl, h⟩
  refine mw_aload_n C 0 d_Mo_vertex_0 rfl rfl ?_
  refine mw_iconst C (v := nI 0) d_Mo_vertex_1 (by decide) ?_
  refine mo_put C rfl h f_Mo_85 p_Mo_0 d_Mo_vertex_2 rfl rfl (fun S h => ?_)
  refine mw_iload_n C 1 d_Mo_vertex_5 rfl rfl ?_
  refine mw_iconst C (v := nI 1) d_Mo_vertex_6 (by decide) ?_
  refine mw_icmp_lt C 27 d_Mo_vertex_7 (by decide) (fun h7 => ?_) (fun h7 => ?_)
  · exact mw_to _ (by exact And.intro rfl (trivial)) (R S h)
  ·
    refine mw_iload_n C 1 d_Mo_vertex_10 rfl rfl ?_
    refine mw_aload_n C 0 d_Mo_vertex_11 rfl rfl ?_
    refine mo_get C h f_Mo_165 d_Mo_vertex_12 rfl rfl ?_
    refine mw_eqi (show _ = nI (σ.1 0 5) from rfl) ?_
    refine mw_icmp_gt C 27 d_Mo_vertex_15 (by decide) (fun h15 => ?_) (fun h15 => ?_)
    · exact mw_to _ (by exact And.intro rfl (trivial)) (R S h)
    ·
      refine mw_iload_n C 2 d_Mo_vertex_18 rfl rfl ?_
      refine mw_if_lt C 27 d_Mo_vertex_19 (by decide) (fun h19 => ?_) (fun h19 => ?_)
      · exact mw_to _ (by exact And.intro rfl (trivial)) (R S h)
      ·
        refine mw_iload_n C 2 d_Mo_vertex_22 rfl rfl ?_
        refine mw_iconst C (v := nI 2) d_Mo_vertex_23 (by decide) ?_
        refine mw_icmp_le C 29 d_Mo_vertex_24 (by decide) (fun h24 => ?_) (fun h24 => ?_)
        · exact absurd ⟨wIn_of (by omega) h7 (Int32.not_lt.mp h15), wIn0_of (by decide) h19 h24⟩ hno
        · exact mw_to _ (by exact And.intro rfl (trivial)) (R S h)
set_option maxHeartbeats 4000000 in
set_option maxRecDepth 100000 in
theorem m_Mo_vertex_0 (l : Launch) (D : va_G) (cA : Nat → ClassId) (cn fv : Int32) (σ : aS) (v j : Nat) (S : mw_S) (h : mR cn fv σ S) (hvs : σ.1 0 5 < 79) (hv1 : 1 ≤ v) (hv2 : v ≤ σ.1 0 5) (hj : j ≤ 2) : mw_M true l lw_tbl y_Mo_vertex b_Mo_vertex 3 (some .int) { frames := 0, cells := 0, slots := 0, locals := 0 } D vCl cA sh_Mo 22 [.inr (.inr 0), .inl (nI v), .inl (nI j)] (S) (mw_Pi (fun z S' => z = nI (if j = 0 then σ.1 1 v else if j = 1 then σ.1 2 v else σ.1 4 v) ∧ mR cn fv (a_rz σ 0) S')) := by
  refine mw_M_of (by decide) (Nat.le_of_ble_eq_true rfl) ?_
  intro p e s m args below meth c A ad C hR
  refine mw_aload_n C 0 d_Mo_vertex_0 rfl rfl ?_
  refine mw_iconst C (v := nI 0) d_Mo_vertex_1 (by decide) ?_
  refine mo_put C rfl h f_Mo_85 p_Mo_0 d_Mo_vertex_2 rfl rfl (fun S h => ?_)
  refine mw_iload_n C 1 d_Mo_vertex_5 rfl rfl ?_
  refine mw_iconst C (v := nI 1) d_Mo_vertex_6 (by decide) ?_
  refine mw_icmp_ltN C 27 d_Mo_vertex_7 (by decide) (by omega) (by omega) (fun h7 => ?_) (fun h7 => ?_)
  · exfalso; omega
  ·
    refine mw_iload_n C 1 d_Mo_vertex_10 rfl rfl ?_
    refine mw_aload_n C 0 d_Mo_vertex_11 rfl rfl ?_
    refine mo_get C h f_Mo_165 d_Mo_vertex_12 rfl rfl ?_
    refine mw_eqi (show _ = nI (σ.1 0 5) from rfl) ?_
    refine mw_icmp_gtN C 27 d_Mo_vertex_15 (by decide) (by omega) (by omega) (fun h15 => ?_) (fun h15 => ?_)
    · exfalso; omega
    ·
      refine mw_iload_n C 2 d_Mo_vertex_18 rfl rfl ?_
      refine mw_if_ltN C 27 d_Mo_vertex_19 (by decide) (by omega) ?_
      refine mw_iload_n C 2 d_Mo_vertex_22 rfl rfl ?_
      refine mw_iconst C (v := nI 2) d_Mo_vertex_23 (by decide) ?_
      refine mw_icmp_leN C 29 d_Mo_vertex_24 (by decide) (by omega) (by omega) (fun h24 => ?_) (fun h24 => ?_)
      ·
        refine mw_iload_n C 2 d_Mo_vertex_29 rfl rfl ?_
        refine mw_if_neN C 42 d_Mo_vertex_30 (by decide) (by omega) (fun h30 => ?_) (fun h30 => ?_)
        ·
          refine mw_iload_n C 2 d_Mo_vertex_42 rfl rfl ?_
          refine mw_iconst C (v := nI 1) d_Mo_vertex_43 (by decide) ?_
          refine mw_icmp_neN C 56 d_Mo_vertex_44 (by decide) (by omega) (by omega) (fun h44 => ?_) (fun h44 => ?_)
          ·
            refine mw_aload_n C 0 d_Mo_vertex_56 rfl rfl ?_
            refine mw_getr C f_Mo_20 d_Mo_vertex_57 (by decide) rfl rfl ?_
            refine mw_iload_n C 1 d_Mo_vertex_60 rfl rfl ?_
            refine mo_ald C h d_Mo_vertex_61 (by decide) rfl rfl (by omega) (by decide) ?_
            refine mw_iret C hR d_Mo_vertex_62 ?_
            refine ⟨?_, h⟩
            rw [if_neg (by omega), if_neg (by omega)]
            rfl
          ·
            refine mw_aload_n C 0 d_Mo_vertex_47 rfl rfl ?_
            refine mw_getr C f_Mo_13 d_Mo_vertex_48 (by decide) rfl rfl ?_
            refine mw_iload_n C 1 d_Mo_vertex_51 rfl rfl ?_
            refine mo_ald C h d_Mo_vertex_52 (by decide) rfl rfl (by omega) (by decide) ?_
            refine mw_goto C 62 d_Mo_vertex_53 (by decide) ?_
            refine mw_iret C hR d_Mo_vertex_62 ?_
            refine ⟨?_, h⟩
            rw [if_neg (by omega), if_pos (by omega)]
            rfl
        ·
          refine mw_aload_n C 0 d_Mo_vertex_33 rfl rfl ?_
          refine mw_getr C f_Mo_7 d_Mo_vertex_34 (by decide) rfl rfl ?_
          refine mw_iload_n C 1 d_Mo_vertex_37 rfl rfl ?_
          refine mo_ald C h d_Mo_vertex_38 (by decide) rfl rfl (by omega) (by decide) ?_
          refine mw_goto C 62 d_Mo_vertex_39 (by decide) ?_
          refine mw_iret C hR d_Mo_vertex_62 ?_
          refine ⟨?_, h⟩
          rw [if_pos (by omega)]
          rfl
      · exfalso; omega
set_option maxHeartbeats 4000000 in
set_option maxRecDepth 100000 in
theorem m_Mo_weak_1 (l : Launch) (D : va_G) (cA : Nat → ClassId) (cn fv : Int32) (σ : aS) (x1 : Int32) (S : mw_S) (h : mR cn fv σ S) (hvs : σ.1 0 5 < 79) (hno : ¬ wIn 1 (σ.1 0 5) x1) : mw_M true l lw_tbl y_Mo_weak b_Mo_weak 2 (some .long) { frames := 0, cells := 0, slots := 0, locals := 0 } D vCl cA sh_Mo 22 [.inr (.inr 0), .inl x1] (S) (mw_Pl (fun z S' => z = -1 ∧ mR cn fv (a_rz σ 0) S')) := by
  refine mw_M_of (by decide) (Nat.le_of_ble_eq_true rfl) ?_
  intro p e s m args below meth c A ad C hR
  refine mw_aload_n C 0 d_Mo_weak_0 rfl rfl ?_
  refine mw_iconst C (v := nI 0) d_Mo_weak_1 (by decide) ?_
  refine mo_put C rfl h f_Mo_85 p_Mo_0 d_Mo_weak_2 rfl rfl (fun S h => ?_)
  refine mw_iload_n C 1 d_Mo_weak_5 rfl rfl ?_
  refine mw_iconst C (v := nI 1) d_Mo_weak_6 (by decide) ?_
  refine mw_icmp_lt C 18 d_Mo_weak_7 (by decide) (fun h7 => ?_) (fun h7 => ?_)
  ·
    refine mw_ldc2 C kc_Mo_138 d_Mo_weak_18 ?_
    refine mw_goto C 30 d_Mo_weak_21 (by decide) ?_
    refine mw_lret C hR d_Mo_weak_30 ?_
    exact ⟨rfl, h⟩
  ·
    refine mw_iload_n C 1 d_Mo_weak_10 rfl rfl ?_
    refine mw_aload_n C 0 d_Mo_weak_11 rfl rfl ?_
    refine mo_get C h f_Mo_165 d_Mo_weak_12 rfl rfl ?_
    refine mw_eqi (show _ = nI (σ.1 0 5) from rfl) ?_
    refine mw_icmp_le C 24 d_Mo_weak_15 (by decide) (fun h15 => ?_) (fun h15 => ?_)
    · exact absurd (wIn_of (by omega) h7 h15) hno
    ·
      refine mw_ldc2 C kc_Mo_138 d_Mo_weak_18 ?_
      refine mw_goto C 30 d_Mo_weak_21 (by decide) ?_
      refine mw_lret C hR d_Mo_weak_30 ?_
      exact ⟨rfl, h⟩
set_option maxHeartbeats 4000000 in
set_option maxRecDepth 100000 in
theorem m_Mo_weak_0 (l : Launch) (D : va_G) (cA : Nat → ClassId) (cn fv : Int32) (σ : aS) (v : Nat) (S : mw_S) (h : mR cn fv σ S) (hvs : σ.1 0 5 < 79) (hv1 : 1 ≤ v) (hv2 : v ≤ σ.1 0 5) : mw_M true l lw_tbl y_Mo_weak b_Mo_weak 2 (some .long) { frames := 0, cells := 0, slots := 0, locals := 0 } D vCl cA sh_Mo 22 [.inr (.inr 0), .inl (nI v)] (S) (mw_Pl (fun z S' => z = σ.2.1 v ∧ mR cn fv (a_rz σ 0) S')) := by
  refine mw_M_of (by decide) (Nat.le_of_ble_eq_true rfl) ?_
  intro p e s m args below meth c A ad C hR
  refine mw_aload_n C 0 d_Mo_weak_0 rfl rfl ?_
  refine mw_iconst C (v := nI 0) d_Mo_weak_1 (by decide) ?_
  refine mo_put C rfl h f_Mo_85 p_Mo_0 d_Mo_weak_2 rfl rfl (fun S h => ?_)
  refine mw_iload_n C 1 d_Mo_weak_5 rfl rfl ?_
  refine mw_iconst C (v := nI 1) d_Mo_weak_6 (by decide) ?_
  refine mw_icmp_ltN C 18 d_Mo_weak_7 (by decide) (by omega) (by omega) (fun h7 => ?_) (fun h7 => ?_)
  · exfalso; omega
  ·
    refine mw_iload_n C 1 d_Mo_weak_10 rfl rfl ?_
    refine mw_aload_n C 0 d_Mo_weak_11 rfl rfl ?_
    refine mo_get C h f_Mo_165 d_Mo_weak_12 rfl rfl ?_
    refine mw_eqi (show _ = nI (σ.1 0 5) from rfl) ?_
    refine mw_icmp_leN C 24 d_Mo_weak_15 (by decide) (by omega) (by omega) (fun h15 => ?_) (fun h15 => ?_)
    ·
      refine mw_aload_n C 0 d_Mo_weak_24 rfl rfl ?_
      refine mw_getr C f_Mo_16 d_Mo_weak_25 (by decide) rfl rfl ?_
      refine mw_iload_n C 1 d_Mo_weak_28 rfl rfl ?_
      refine mo_lald C h d_Mo_weak_29 (by omega) ?_
      refine mw_lret C hR d_Mo_weak_30 ?_
      exact ⟨rfl, h⟩
    · exfalso; omega
def a_size (σ : aS) (node : Nat) : Nat → Nat
  | 0 => 0
  | q + 1 => a_size σ node q + (if σ.1 9 (48 * node + q) = 0 then 0 else 1)
set_option maxHeartbeats 4000000 in
set_option maxRecDepth 100000 in
theorem m_Mo_graphSize (l : Launch) (D : va_G) (cA : Nat → ClassId) (cn fv : Int32) (σ : aS) (node : Nat) (S : mw_S) (h : mR cn fv σ S) (hn : node < 4) (h9 : ∀ j, σ.1 9 j ≤ 1) : mw_M false l lw_tbl y_Mo_graphSize b_Mo_graphSize 4 (some .int) { frames := 0, cells := 0, slots := 0, locals := 0 } D vCl cA sh_Mo 22 [.inr (.inr 0), .inl (nI node)] (S) (mw_Pi (fun z _ => z = nI (a_size σ node 48))) := by
  refine mw_M_of (by decide) (Nat.le_of_ble_eq_true rfl) ?_
  intro p e s m args below meth c A ad C hR
  have L : ∀ (dd i : Nat), i + dd = 48 → mw p l e { frames := 0, cells := 0, slots := 0, locals := 0 } s m args below meth c (MQ below (mw_Qc false D vCl cA ad sh_Mo 22 s.heap.size (S) (mw_Pi (fun z _ => z = nI (a_size σ node 48)))) args s 0 0 A) 0 0 D vCl cA A ad sh_Mo 22 4 (4) ([(3, .inl (nI i)), (2, .inl (nI (a_size σ node i))), (0, .inr (.inr 0)), (1, .inl (nI node))]) ([]) (S) := by
    intro dd
    induction dd with
    | zero =>
      intro i hi
      obtain rfl : i = 48 := by omega
      refine mw_iload_n C 3 d_Mo_graphSize_4 rfl rfl ?_
      refine mw_bipush C (v := nI 48) d_Mo_graphSize_5 (by decide) ?_
      refine mw_icmp_geN C 38 d_Mo_graphSize_7 (by decide) (by omega) (by omega) (fun h7 => ?_) (fun h7 => ?_)
      ·
        refine mw_iload_n C 2 d_Mo_graphSize_38 rfl rfl ?_
        refine mw_iret C hR d_Mo_graphSize_39 ?_
        rfl
      · exfalso; omega
    | succ dd ih =>
      intro i hi
      have h9i := h9 (48 * node + i)
      refine mw_iload_n C 3 d_Mo_graphSize_4 rfl rfl ?_
      refine mw_bipush C (v := nI 48) d_Mo_graphSize_5 (by decide) ?_
      refine mw_icmp_geN C 38 d_Mo_graphSize_7 (by decide) (by omega) (by omega) (fun h7 => ?_) (fun h7 => ?_)
      · exfalso; omega
      ·
        refine mw_iload_n C 2 d_Mo_graphSize_10 rfl rfl ?_
        refine mw_aload_n C 0 d_Mo_graphSize_11 rfl rfl ?_
        refine mw_getr C f_Mo_36 d_Mo_graphSize_12 (by decide) rfl rfl ?_
        refine mw_bipush C (v := nI 48) d_Mo_graphSize_15 (by decide) ?_
        refine mw_iload_n C 1 d_Mo_graphSize_17 rfl rfl ?_
        refine mw_imulN C d_Mo_graphSize_18 ?_
        refine mw_iload_n C 3 d_Mo_graphSize_19 rfl rfl ?_
        refine mw_iaddN C d_Mo_graphSize_20 ?_
        refine mo_zald C h d_Mo_graphSize_21 (by decide) rfl rfl (by omega) (by decide) ?_
        refine mw_if_eqN C 29 d_Mo_graphSize_22 (by decide) (by omega) (fun h22 => ?_) (fun h22 => ?_)
        ·
          refine mw_iconst C (v := nI 0) d_Mo_graphSize_29 (by decide) ?_
          refine mw_iaddN C d_Mo_graphSize_30 ?_
          refine mw_istore_n C 2 d_Mo_graphSize_31 rfl (by decide) ?_
          refine mw_iincN C d_Mo_graphSize_32 rfl (by decide) ?_
          refine mw_goto C 4 d_Mo_graphSize_35 (by decide) ?_
          refine mw_eq _ _ _ (by exact And.intro rfl (And.intro (by show some (Sum.inl _) = _; rw [a_size, if_pos h22]) (And.intro rfl (And.intro rfl trivial)))) rfl rfl (ih (i + 1) (by omega))
        ·
          refine mw_iconst C (v := nI 1) d_Mo_graphSize_25 (by decide) ?_
          refine mw_goto C 30 d_Mo_graphSize_26 (by decide) ?_
          refine mw_iaddN C d_Mo_graphSize_30 ?_
          refine mw_istore_n C 2 d_Mo_graphSize_31 rfl (by decide) ?_
          refine mw_iincN C d_Mo_graphSize_32 rfl (by decide) ?_
          refine mw_goto C 4 d_Mo_graphSize_35 (by decide) ?_
          refine mw_eq _ _ _ (by exact And.intro rfl (And.intro (by show some (Sum.inl _) = _; rw [a_size, if_neg (by omega)]) (And.intro rfl (And.intro rfl trivial)))) rfl rfl (ih (i + 1) (by omega))
  refine mw_iconst C (v := nI 0) d_Mo_graphSize_0 (by decide) ?_
  refine mw_istore_n C 2 d_Mo_graphSize_1 rfl (by decide) ?_
  refine mw_iconst C (v := nI 0) d_Mo_graphSize_2 (by decide) ?_
  refine mw_istore_n C 3 d_Mo_graphSize_3 rfl (by decide) ?_
  exact mw_to _ (by exact And.intro rfl (And.intro rfl (And.intro rfl (And.intro rfl (trivial))))) (L 48 0 rfl)
set_option maxHeartbeats 4000000 in
set_option maxRecDepth 100000 in
theorem m_Mo_node_1 (l : Launch) (D : va_G) (cA : Nat → ClassId) (cn fv : Int32) (σ : aS) (x1 x2 : Int32) (S : mw_S) (h : mR cn fv σ S) (hno : ¬ (wIsN x1 ∧ wIn 0 7 x2)) : mw_M true l lw_tbl y_Mo_node b_Mo_node 3 (some .int) { frames := 2, cells := 0, slots := 0, locals := 41 } D vCl cA sh_Mo 22 [.inr (.inr 0), .inl x1, .inl x2] (S) (mw_Pi (fun z S' => z = -1 ∧ mR cn fv (a_rz σ 0) S')) := by
  refine mw_M_of (by decide) (Nat.le_of_ble_eq_true rfl) ?_
  intro p e s m args below meth c A ad C hR
  refine mw_aload_n C 0 d_Mo_node_0 rfl rfl ?_
  refine mw_iconst C (v := nI 0) d_Mo_node_1 (by decide) ?_
  refine mo_put C rfl h f_Mo_85 p_Mo_0 d_Mo_node_2 rfl rfl (fun S h => ?_)
  refine mw_iload_n C 1 d_Mo_node_5 rfl rfl ?_
  refine mw_run0i C (ix0 _ _) (mw_invS C (m_Mo_isNode l D cA x1 _) (ix0 _ _) kb_Mo_88 ws_Mo_isNode d_Mo_node_6 rfl rfl (Nat.le_of_ble_eq_true rfl) rfl rfl ⟨by decide, by decide⟩ ⟨Nat.zero_le _, Nat.zero_le _⟩) (fun x6 e6 => ?_)
  rcases e6 with ⟨rfl, hn⟩ | ⟨rfl, hn⟩
  ·
    refine mw_if_eqN C 22 d_Mo_node_9 (by decide) (by omega) (fun h9 => ?_) (fun h9 => ?_)
    · exfalso; omega
    ·
      refine mw_iload_n C 2 d_Mo_node_12 rfl rfl ?_
      refine mw_if_lt C 22 d_Mo_node_13 (by decide) (fun h13 => ?_) (fun h13 => ?_)
      ·
        refine mw_iconst C (v := (-1)) d_Mo_node_22 (by decide) ?_
        refine mw_iret C hR d_Mo_node_23 ?_
        exact ⟨rfl, h⟩
      ·
        refine mw_iload_n C 2 d_Mo_node_16 rfl rfl ?_
        refine mw_bipush C (v := nI 7) d_Mo_node_17 (by decide) ?_
        refine mw_icmp_le C 24 d_Mo_node_19 (by decide) (fun h19 => ?_) (fun h19 => ?_)
        · exact absurd ⟨hn, wIn0_of (by decide) h13 h19⟩ hno
        ·
          refine mw_iconst C (v := (-1)) d_Mo_node_22 (by decide) ?_
          refine mw_iret C hR d_Mo_node_23 ?_
          exact ⟨rfl, h⟩
  ·
    refine mw_if_eqN C 22 d_Mo_node_9 (by decide) (by omega) (fun h9 => ?_) (fun h9 => ?_)
    ·
      refine mw_iconst C (v := (-1)) d_Mo_node_22 (by decide) ?_
      refine mw_iret C hR d_Mo_node_23 ?_
      exact ⟨rfl, h⟩
    · exfalso; omega
def a_node (σ : aS) (node j : Nat) : Nat := if j = 0 then σ.1 14 node else if j = 1 then σ.1 16 node else if j = 2 then σ.1 17 node else if j = 3 then a_size σ node 48 else σ.1 18 (4 * node + (j - 4))
set_option maxHeartbeats 4000000 in
set_option maxRecDepth 100000 in
theorem m_Mo_node_0 (l : Launch) (D : va_G) (cA : Nat → ClassId) (cn fv : Int32) (σ : aS) (fy node j : Nat) (S : mw_S) (h : mR cn fv σ S) (hfy : fyR fv fy) (hn : node < 4) (hj : j ≤ 7) (hg9 : ∀ j, σ.1 9 j ≤ 1) : mw_M true l lw_tbl y_Mo_node b_Mo_node 3 (some .int) { frames := 2, cells := 0, slots := 0, locals := 41 } D vCl cA sh_Mo 22 [.inr (.inr 0), .inl (nI node), .inl (nI j)] (S) (mw_Pi (fun z S' => z = nI (if node = fy then 0 else a_node σ node j) ∧ mR cn fv (a_rz σ 0) S')) := by
  refine mw_M_of (by decide) (Nat.le_of_ble_eq_true rfl) ?_
  intro p e s m args below meth c A ad C hR
  refine mw_aload_n C 0 d_Mo_node_0 rfl rfl ?_
  refine mw_iconst C (v := nI 0) d_Mo_node_1 (by decide) ?_
  refine mo_put C rfl h f_Mo_85 p_Mo_0 d_Mo_node_2 rfl rfl (fun S h => ?_)
  refine mw_iload_n C 1 d_Mo_node_5 rfl rfl ?_
  refine mw_run0i C (ix0 _ _) (mw_invS C (m_Mo_isNode l D cA (nI node) _) (ix0 _ _) kb_Mo_88 ws_Mo_isNode d_Mo_node_6 rfl rfl (Nat.le_of_ble_eq_true rfl) rfl rfl ⟨by decide, by decide⟩ ⟨Nat.zero_le _, Nat.zero_le _⟩) (fun x6 e6 => ?_)
  rcases e6 with ⟨rfl, hn2⟩ | ⟨rfl, hn2⟩
  ·
    refine mw_if_eqN C 22 d_Mo_node_9 (by decide) (by omega) (fun h9 => ?_) (fun h9 => ?_)
    · exfalso; omega
    ·
      refine mw_iload_n C 2 d_Mo_node_12 rfl rfl ?_
      refine mw_if_ltN C 22 d_Mo_node_13 (by decide) (by omega) ?_
      refine mw_iload_n C 2 d_Mo_node_16 rfl rfl ?_
      refine mw_bipush C (v := nI 7) d_Mo_node_17 (by decide) ?_
      refine mw_icmp_leN C 24 d_Mo_node_19 (by decide) (by omega) (by omega) (fun h19 => ?_) (fun h19 => ?_)
      ·
        refine mw_aload_n C 0 d_Mo_node_24 rfl rfl ?_
        refine mw_iload_n C 1 d_Mo_node_25 rfl rfl ?_
        refine mw_run0i C ix_Mo (mw_invV C (kk := 0) (m_Mo_isFaulty l D cA cn fv _ fy node _ (mR_rs h) hfy hn) ix_Mo kb_Mo_93 wm_Mo_isFaulty wv_Mo_isFaulty (by decide) rfl rfl d_Mo_node_26 rfl rfl (Nat.le_of_ble_eq_true rfl) rfl rfl ⟨by decide, by decide⟩ ⟨Nat.zero_le _, Nat.zero_le _⟩) (fun x26 e26 => ?_)
        subst e26
        by_cases he : node = fy
        ·
          refine mw_eqi (show _ = nI 1 from by rw [if_pos he]) ?_
          refine mw_if_eqN C 34 d_Mo_node_29 (by decide) (by omega) (fun h29 => ?_) (fun h29 => ?_)
          · exfalso; omega
          ·
            refine mw_iconst C (v := nI 0) d_Mo_node_32 (by decide) ?_
            refine mw_iret C hR d_Mo_node_33 ?_
            rw [if_pos he]
            exact ⟨rfl, h⟩
        ·
          refine mw_eqi (show _ = nI 0 from by rw [if_neg he]) ?_
          refine mw_if_eqN C 34 d_Mo_node_29 (by decide) (by omega) (fun h29 => ?_) (fun h29 => ?_)
          ·
            refine mw_iload_n C 2 d_Mo_node_34 rfl rfl ?_
            refine mw_if_neN C 47 d_Mo_node_35 (by decide) (by omega) (fun h35 => ?_) (fun h35 => ?_)
            ·
              refine mw_iload_n C 2 d_Mo_node_47 rfl rfl ?_
              refine mw_iconst C (v := nI 1) d_Mo_node_48 (by decide) ?_
              refine mw_icmp_neN C 61 d_Mo_node_49 (by decide) (by omega) (by omega) (fun h49 => ?_) (fun h49 => ?_)
              ·
                refine mw_iload_n C 2 d_Mo_node_61 rfl rfl ?_
                refine mw_iconst C (v := nI 2) d_Mo_node_62 (by decide) ?_
                refine mw_icmp_neN C 75 d_Mo_node_63 (by decide) (by omega) (by omega) (fun h63 => ?_) (fun h63 => ?_)
                ·
                  refine mw_iload_n C 2 d_Mo_node_75 rfl rfl ?_
                  refine mw_iconst C (v := nI 3) d_Mo_node_76 (by decide) ?_
                  refine mw_icmp_neN C 88 d_Mo_node_77 (by decide) (by omega) (by omega) (fun h77 => ?_) (fun h77 => ?_)
                  ·
                    refine mw_aload_n C 0 d_Mo_node_88 rfl rfl ?_
                    refine mw_getr C f_Mo_63 d_Mo_node_89 (by decide) rfl rfl ?_
                    refine mw_iconst C (v := nI 4) d_Mo_node_92 (by decide) ?_
                    refine mw_iload_n C 1 d_Mo_node_93 rfl rfl ?_
                    refine mw_imulN C d_Mo_node_94 ?_
                    refine mw_iload_n C 2 d_Mo_node_95 rfl rfl ?_
                    refine mw_iaddN C d_Mo_node_96 ?_
                    refine mw_iconst C (v := nI 4) d_Mo_node_97 (by decide) ?_
                    refine mw_isubN C d_Mo_node_98 (by omega) ?_
                    refine mw_eqi (show _ = nI (4 * node + (j - 4)) from by congr 1; omega) ?_
                    refine mo_ald C h d_Mo_node_99 (by decide) rfl rfl (by omega) (by decide) ?_
                    refine mw_iret C hR d_Mo_node_100 ?_
                    refine ⟨?_, h⟩
                    unfold a_node
                    rw [if_neg he, if_neg (by omega), if_neg (by omega), if_neg (by omega), if_neg (by omega)]
                    rfl
                  ·
                    refine mw_aload_n C 0 d_Mo_node_80 rfl rfl ?_
                    refine mw_iload_n C 1 d_Mo_node_81 rfl rfl ?_
                    refine mw_run0i C ix_Mo (mw_invV C (kk := 0) (m_Mo_graphSize l D cA cn fv _ node _ (mR_rs h) hn hg9) ix_Mo kb_Mo_204 wm_Mo_graphSize wv_Mo_graphSize (by decide) rfl rfl d_Mo_node_82 rfl rfl (Nat.le_of_ble_eq_true rfl) rfl rfl ⟨by decide, by decide⟩ ⟨Nat.zero_le _, Nat.zero_le _⟩) (fun x82 e82 => ?_)
                    subst e82
                    refine mw_goto C 100 d_Mo_node_85 (by decide) ?_
                    refine mw_iret C hR d_Mo_node_100 ?_
                    refine ⟨?_, h⟩
                    unfold a_node
                    rw [if_neg he, if_neg (by omega), if_neg (by omega), if_neg (by omega), if_pos (by omega)]
                    rfl
                ·
                  refine mw_aload_n C 0 d_Mo_node_66 rfl rfl ?_
                  refine mw_getr C f_Mo_60 d_Mo_node_67 (by decide) rfl rfl ?_
                  refine mw_iload_n C 1 d_Mo_node_70 rfl rfl ?_
                  refine mo_ald C h d_Mo_node_71 (by decide) rfl rfl (by omega) (by decide) ?_
                  refine mw_goto C 100 d_Mo_node_72 (by decide) ?_
                  refine mw_iret C hR d_Mo_node_100 ?_
                  refine ⟨?_, h⟩
                  unfold a_node
                  rw [if_neg he, if_neg (by omega), if_neg (by omega), if_pos (by omega)]
                  rfl
              ·
                refine mw_aload_n C 0 d_Mo_node_52 rfl rfl ?_
                refine mw_getr C f_Mo_57 d_Mo_node_53 (by decide) rfl rfl ?_
                refine mw_iload_n C 1 d_Mo_node_56 rfl rfl ?_
                refine mo_ald C h d_Mo_node_57 (by decide) rfl rfl (by omega) (by decide) ?_
                refine mw_goto C 100 d_Mo_node_58 (by decide) ?_
                refine mw_iret C hR d_Mo_node_100 ?_
                refine ⟨?_, h⟩
                unfold a_node
                rw [if_neg he, if_neg (by omega), if_pos (by omega)]
                rfl
            ·
              refine mw_aload_n C 0 d_Mo_node_38 rfl rfl ?_
              refine mw_getr C f_Mo_51 d_Mo_node_39 (by decide) rfl rfl ?_
              refine mw_iload_n C 1 d_Mo_node_42 rfl rfl ?_
              refine mo_ald C h d_Mo_node_43 (by decide) rfl rfl (by omega) (by decide) ?_
              refine mw_goto C 100 d_Mo_node_44 (by decide) ?_
              refine mw_iret C hR d_Mo_node_100 ?_
              refine ⟨?_, h⟩
              unfold a_node
              rw [if_neg he, if_pos (by omega)]
              rfl
          · exfalso; omega
      · exfalso; omega
  · exact absurd ⟨node, hn, rfl⟩ hn2
set_option maxHeartbeats 4000000 in
set_option maxRecDepth 100000 in
theorem m_Mo_graph_1 (l : Launch) (D : va_G) (cA : Nat → ClassId) (cn fv : Int32) (σ : aS) (x1 x2 : Int32) (S : mw_S) (h : mR cn fv σ S) (hno : ¬ (wIsN x1 ∧ wIn 0 47 x2)) : mw_M true l lw_tbl y_Mo_graph b_Mo_graph 4 (some .int) { frames := 1, cells := 0, slots := 0, locals := 20 } D vCl cA sh_Mo 22 [.inr (.inr 0), .inl x1, .inl x2] (S) (mw_Pi (fun z S' => z = nI 0 ∧ mR cn fv (a_rz σ 0) S')) := by
  refine mw_M_of (by decide) (Nat.le_of_ble_eq_true rfl) ?_
  intro p e s m args below meth c A ad C hR
  refine mw_aload_n C 0 d_Mo_graph_0 rfl rfl ?_
  refine mw_iconst C (v := nI 0) d_Mo_graph_1 (by decide) ?_
  refine mo_put C rfl h f_Mo_85 p_Mo_0 d_Mo_graph_2 rfl rfl (fun S h => ?_)
  refine mw_iload_n C 1 d_Mo_graph_5 rfl rfl ?_
  refine mw_run0i C (ix0 _ _) (mw_invS C (m_Mo_isNode l D cA x1 _) (ix0 _ _) kb_Mo_88 ws_Mo_isNode d_Mo_graph_6 rfl rfl (Nat.le_of_ble_eq_true rfl) rfl rfl ⟨by decide, by decide⟩ ⟨Nat.zero_le _, Nat.zero_le _⟩) (fun x6 e6 => ?_)
  rcases e6 with ⟨rfl, hn⟩ | ⟨rfl, hn⟩
  ·
    refine mw_if_eqN C 22 d_Mo_graph_9 (by decide) (by omega) (fun h9 => ?_) (fun h9 => ?_)
    · exfalso; omega
    ·
      refine mw_iload_n C 2 d_Mo_graph_12 rfl rfl ?_
      refine mw_if_lt C 22 d_Mo_graph_13 (by decide) (fun h13 => ?_) (fun h13 => ?_)
      ·
        refine mw_iconst C (v := nI 0) d_Mo_graph_22 (by decide) ?_
        refine mw_iret C hR d_Mo_graph_23 ?_
        exact ⟨rfl, h⟩
      ·
        refine mw_iload_n C 2 d_Mo_graph_16 rfl rfl ?_
        refine mw_bipush C (v := nI 47) d_Mo_graph_17 (by decide) ?_
        refine mw_icmp_le C 24 d_Mo_graph_19 (by decide) (fun h19 => ?_) (fun h19 => ?_)
        · exact absurd ⟨hn, wIn0_of (by decide) h13 h19⟩ hno
        ·
          refine mw_iconst C (v := nI 0) d_Mo_graph_22 (by decide) ?_
          refine mw_iret C hR d_Mo_graph_23 ?_
          exact ⟨rfl, h⟩
  ·
    refine mw_if_eqN C 22 d_Mo_graph_9 (by decide) (by omega) (fun h9 => ?_) (fun h9 => ?_)
    ·
      refine mw_iconst C (v := nI 0) d_Mo_graph_22 (by decide) ?_
      refine mw_iret C hR d_Mo_graph_23 ?_
      exact ⟨rfl, h⟩
    · exfalso; omega
set_option maxHeartbeats 4000000 in
set_option maxRecDepth 100000 in
theorem m_Mo_graph_0 (l : Launch) (D : va_G) (cA : Nat → ClassId) (cn fv : Int32) (σ : aS) (node q : Nat) (S : mw_S) (h : mR cn fv σ S) (hn : node < 4) (hq : q < 48) (h9 : σ.1 9 (48 * node + q) ≤ 1) : mw_M true l lw_tbl y_Mo_graph b_Mo_graph 4 (some .int) { frames := 1, cells := 0, slots := 0, locals := 20 } D vCl cA sh_Mo 22 [.inr (.inr 0), .inl (nI node), .inl (nI q)] (S) (mw_Pi (fun z S' => z = (if σ.1 9 (48 * node + q) = 0 then -(nI (σ.1 8 (48 * node + q))) else nI (σ.1 8 (48 * node + q))) ∧ mR cn fv (a_rz σ 0) S')) := by
  refine mw_M_of (by decide) (Nat.le_of_ble_eq_true rfl) ?_
  intro p e s m args below meth c A ad C hR
  have h9' : (a_up σ 0 0 0).1 9 (48 * node + q) ≤ 1 := h9
  refine mw_aload_n C 0 d_Mo_graph_0 rfl rfl ?_
  refine mw_iconst C (v := nI 0) d_Mo_graph_1 (by decide) ?_
  refine mo_put C rfl h f_Mo_85 p_Mo_0 d_Mo_graph_2 rfl rfl (fun S h => ?_)
  refine mw_iload_n C 1 d_Mo_graph_5 rfl rfl ?_
  refine mw_run0i C (ix0 _ _) (mw_invS C (m_Mo_isNode l D cA (nI node) _) (ix0 _ _) kb_Mo_88 ws_Mo_isNode d_Mo_graph_6 rfl rfl (Nat.le_of_ble_eq_true rfl) rfl rfl ⟨by decide, by decide⟩ ⟨Nat.zero_le _, Nat.zero_le _⟩) (fun x6 e6 => ?_)
  rcases e6 with ⟨rfl, hn2⟩ | ⟨rfl, hn2⟩
  ·
    refine mw_if_eqN C 22 d_Mo_graph_9 (by decide) (by omega) (fun h9 => ?_) (fun h9 => ?_)
    · exfalso; omega
    ·
      refine mw_iload_n C 2 d_Mo_graph_12 rfl rfl ?_
      refine mw_if_ltN C 22 d_Mo_graph_13 (by decide) (by omega) ?_
      refine mw_iload_n C 2 d_Mo_graph_16 rfl rfl ?_
      refine mw_bipush C (v := nI 47) d_Mo_graph_17 (by decide) ?_
      refine mw_icmp_leN C 24 d_Mo_graph_19 (by decide) (by omega) (by omega) (fun h19 => ?_) (fun h19 => ?_)
      ·
        refine mw_aload_n C 0 d_Mo_graph_24 rfl rfl ?_
        refine mw_getr C f_Mo_33 d_Mo_graph_25 (by decide) rfl rfl ?_
        refine mw_bipush C (v := nI 48) d_Mo_graph_28 (by decide) ?_
        refine mw_iload_n C 1 d_Mo_graph_30 rfl rfl ?_
        refine mw_imulN C d_Mo_graph_31 ?_
        refine mw_iload_n C 2 d_Mo_graph_32 rfl rfl ?_
        refine mw_iaddN C d_Mo_graph_33 ?_
        refine mo_ald C h d_Mo_graph_34 (by decide) rfl rfl (by omega) (by decide) ?_
        refine mw_istore_n C 3 d_Mo_graph_35 rfl (by decide) ?_
        refine mw_aload_n C 0 d_Mo_graph_36 rfl rfl ?_
        refine mw_getr C f_Mo_36 d_Mo_graph_37 (by decide) rfl rfl ?_
        refine mw_bipush C (v := nI 48) d_Mo_graph_40 (by decide) ?_
        refine mw_iload_n C 1 d_Mo_graph_42 rfl rfl ?_
        refine mw_imulN C d_Mo_graph_43 ?_
        refine mw_iload_n C 2 d_Mo_graph_44 rfl rfl ?_
        refine mw_iaddN C d_Mo_graph_45 ?_
        refine mo_zald C h d_Mo_graph_46 (by decide) rfl rfl (by omega) (by decide) ?_
        refine mw_eqi (show _ = nI (σ.1 9 (48 * node + q)) from rfl) ?_
        refine mw_if_eqN C 54 d_Mo_graph_47 (by decide) (by omega) (fun h47 => ?_) (fun h47 => ?_)
        ·
          refine mw_iload_n C 3 d_Mo_graph_54 rfl rfl ?_
          refine mw_ineg C d_Mo_graph_55 ?_
          refine mw_iret C hR d_Mo_graph_56 ?_
          rw [if_pos h47]
          exact ⟨rfl, h⟩
        ·
          refine mw_iload_n C 3 d_Mo_graph_50 rfl rfl ?_
          refine mw_goto C 56 d_Mo_graph_51 (by decide) ?_
          refine mw_iret C hR d_Mo_graph_56 ?_
          rw [if_neg (by omega)]
          exact ⟨rfl, h⟩
      · exfalso; omega
  · exact absurd ⟨node, hn, rfl⟩ hn2
set_option maxHeartbeats 4000000 in
set_option maxRecDepth 100000 in
theorem m_Mo_ordered_1 (l : Launch) (D : va_G) (cA : Nat → ClassId) (cn fv : Int32) (σ : aS) (x1 x2 : Int32) (S : mw_S) (h : mR cn fv σ S) (hoc : ∀ n, n < 4 → σ.1 17 n ≤ 48) (hno : ¬ ∃ n k, n < 4 ∧ k < σ.1 17 n ∧ x1 = nI n ∧ x2 = nI k) : mw_M true l lw_tbl y_Mo_ordered b_Mo_ordered 3 (some .int) { frames := 1, cells := 0, slots := 0, locals := 20 } D vCl cA sh_Mo 22 [.inr (.inr 0), .inl x1, .inl x2] (S) (mw_Pi (fun z S' => z = -1 ∧ mR cn fv (a_rz σ 0) S')) := by
  refine mw_M_of (by decide) (Nat.le_of_ble_eq_true rfl) ?_
  intro p e s m args below meth c A ad C hR
  refine mw_aload_n C 0 d_Mo_ordered_0 rfl rfl ?_
  refine mw_iconst C (v := nI 0) d_Mo_ordered_1 (by decide) ?_
  refine mo_put C rfl h f_Mo_85 p_Mo_0 d_Mo_ordered_2 rfl rfl (fun S h => ?_)
  refine mw_iload_n C 1 d_Mo_ordered_5 rfl rfl ?_
  refine mw_run0i C (ix0 _ _) (mw_invS C (m_Mo_isNode l D cA x1 _) (ix0 _ _) kb_Mo_88 ws_Mo_isNode d_Mo_ordered_6 rfl rfl (Nat.le_of_ble_eq_true rfl) rfl rfl ⟨by decide, by decide⟩ ⟨Nat.zero_le _, Nat.zero_le _⟩) (fun x6 e6 => ?_)
  rcases e6 with ⟨rfl, hn⟩ | ⟨rfl, hn⟩
  ·
    obtain ⟨n, hn, rfl⟩ := hn
    have hocn := hoc n hn
    refine mw_if_eqN C 26 d_Mo_ordered_9 (by decide) (by omega) (fun h9 => ?_) (fun h9 => ?_)
    · exfalso; omega
    ·
      refine mw_iload_n C 2 d_Mo_ordered_12 rfl rfl ?_
      refine mw_if_lt C 26 d_Mo_ordered_13 (by decide) (fun h13 => ?_) (fun h13 => ?_)
      ·
        refine mw_iconst C (v := (-1)) d_Mo_ordered_26 (by decide) ?_
        refine mw_goto C 41 d_Mo_ordered_27 (by decide) ?_
        refine mw_iret C hR d_Mo_ordered_41 ?_
        exact ⟨rfl, h⟩
      ·
        refine mw_iload_n C 2 d_Mo_ordered_16 rfl rfl ?_
        refine mw_aload_n C 0 d_Mo_ordered_17 rfl rfl ?_
        refine mw_getr C f_Mo_60 d_Mo_ordered_18 (by decide) rfl rfl ?_
        refine mw_iload_n C 1 d_Mo_ordered_21 rfl rfl ?_
        refine mo_ald C h d_Mo_ordered_22 (by decide) rfl rfl (by omega) (by decide) ?_
        refine mw_eqi (show _ = nI (σ.1 17 n) from rfl) ?_
        refine mw_icmp_lt C 30 d_Mo_ordered_23 (by decide) (fun h23 => ?_) (fun h23 => ?_)
        ·
          obtain ⟨k, hk, e⟩ := wLt_of (by omega) h13 h23
          exact absurd ⟨n, k, hn, hk, rfl, e⟩ hno
        ·
          refine mw_iconst C (v := (-1)) d_Mo_ordered_26 (by decide) ?_
          refine mw_goto C 41 d_Mo_ordered_27 (by decide) ?_
          refine mw_iret C hR d_Mo_ordered_41 ?_
          exact ⟨rfl, h⟩
  ·
    refine mw_if_eqN C 26 d_Mo_ordered_9 (by decide) (by omega) (fun h9 => ?_) (fun h9 => ?_)
    ·
      refine mw_iconst C (v := (-1)) d_Mo_ordered_26 (by decide) ?_
      refine mw_goto C 41 d_Mo_ordered_27 (by decide) ?_
      refine mw_iret C hR d_Mo_ordered_41 ?_
      exact ⟨rfl, h⟩
    · exfalso; omega
set_option maxHeartbeats 4000000 in
set_option maxRecDepth 100000 in
theorem m_Mo_ordered_0 (l : Launch) (D : va_G) (cA : Nat → ClassId) (cn fv : Int32) (σ : aS) (n k : Nat) (S : mw_S) (h : mR cn fv σ S) (hn : n < 4) (hk : k < σ.1 17 n) (hoc : σ.1 17 n ≤ 48) : mw_M true l lw_tbl y_Mo_ordered b_Mo_ordered 3 (some .int) { frames := 1, cells := 0, slots := 0, locals := 20 } D vCl cA sh_Mo 22 [.inr (.inr 0), .inl (nI n), .inl (nI k)] (S) (mw_Pi (fun z S' => z = nI (σ.1 11 (48 * n + k)) ∧ mR cn fv (a_rz σ 0) S')) := by
  refine mw_M_of (by decide) (Nat.le_of_ble_eq_true rfl) ?_
  intro p e s m args below meth c A ad C hR
  refine mw_aload_n C 0 d_Mo_ordered_0 rfl rfl ?_
  refine mw_iconst C (v := nI 0) d_Mo_ordered_1 (by decide) ?_
  refine mo_put C rfl h f_Mo_85 p_Mo_0 d_Mo_ordered_2 rfl rfl (fun S h => ?_)
  refine mw_iload_n C 1 d_Mo_ordered_5 rfl rfl ?_
  refine mw_run0i C (ix0 _ _) (mw_invS C (m_Mo_isNode l D cA (nI n) _) (ix0 _ _) kb_Mo_88 ws_Mo_isNode d_Mo_ordered_6 rfl rfl (Nat.le_of_ble_eq_true rfl) rfl rfl ⟨by decide, by decide⟩ ⟨Nat.zero_le _, Nat.zero_le _⟩) (fun x6 e6 => ?_)
  rcases e6 with ⟨rfl, hn2⟩ | ⟨rfl, hn2⟩
  ·
    refine mw_if_eqN C 26 d_Mo_ordered_9 (by decide) (by omega) (fun h9 => ?_) (fun h9 => ?_)
    · exfalso; omega
    ·
      refine mw_iload_n C 2 d_Mo_ordered_12 rfl rfl ?_
      refine mw_if_ltN C 26 d_Mo_ordered_13 (by decide) (by omega) ?_
      refine mw_iload_n C 2 d_Mo_ordered_16 rfl rfl ?_
      refine mw_aload_n C 0 d_Mo_ordered_17 rfl rfl ?_
      refine mw_getr C f_Mo_60 d_Mo_ordered_18 (by decide) rfl rfl ?_
      refine mw_iload_n C 1 d_Mo_ordered_21 rfl rfl ?_
      refine mo_ald C h d_Mo_ordered_22 (by decide) rfl rfl (by omega) (by decide) ?_
      refine mw_eqi (show _ = nI (σ.1 17 n) from rfl) ?_
      refine mw_icmp_ltN C 30 d_Mo_ordered_23 (by decide) (by omega) (by omega) (fun h23 => ?_) (fun h23 => ?_)
      ·
        refine mw_aload_n C 0 d_Mo_ordered_30 rfl rfl ?_
        refine mw_getr C f_Mo_42 d_Mo_ordered_31 (by decide) rfl rfl ?_
        refine mw_bipush C (v := nI 48) d_Mo_ordered_34 (by decide) ?_
        refine mw_iload_n C 1 d_Mo_ordered_36 rfl rfl ?_
        refine mw_imulN C d_Mo_ordered_37 ?_
        refine mw_iload_n C 2 d_Mo_ordered_38 rfl rfl ?_
        refine mw_iaddN C d_Mo_ordered_39 ?_
        refine mo_ald C h d_Mo_ordered_40 (by decide) rfl rfl (by omega) (by decide) ?_
        refine mw_iret C hR d_Mo_ordered_41 ?_
        exact ⟨rfl, h⟩
      · exfalso; omega
  · exact absurd ⟨n, hn, rfl⟩ hn2
