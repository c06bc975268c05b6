/-! the ledger's small methods -/
set_option maxHeartbeats 4000000 in
set_option maxRecDepth 100000 in
theorem m_Wl_isActive (l : Launch) (D : va_G) (cA : Nat → ClassId) (x : Int32) (S : mw_S) : mw_M false l lw_tbl y_Wl_isActive b_Wl_isActive 2 (some .boolean) { frames := 1, cells := 0, slots := 0, locals := 20 } D vCl cA sh_Wl 69 [.inr (.inr 0), .inl x] (S) (mw_Pi (fun r _ => (r = nI 1 ∧ ∃ k, k < 4 ∧ x = nI k ∧ ¬ x = S.1 0 0) ∨ (r = nI 0 ∧ ¬ ∃ k, k < 4 ∧ x = nI k ∧ ¬ x = S.1 0 0))) := by
  refine mw_M_of (by decide) (Nat.le_of_ble_eq_true rfl) ?_
  intro p e s m args below meth c A ad C hR
  refine mw_iload_n C 1 d_Wl_isActive_0 rfl rfl ?_
  refine mw_run0i C (ix0 _ _) (mw_invS C (m_Wl_isNode l D cA x _) (ix0 _ _) kb_Wl_9 ws_Wl_isNode d_Wl_isActive_1 rfl rfl (Nat.le_of_ble_eq_true rfl) rfl rfl ⟨by decide, by decide⟩ ⟨Nat.zero_le _, Nat.zero_le _⟩) (fun x1 e1 => ?_)
  rcases e1 with ⟨rfl, hk⟩ | ⟨rfl, hk⟩
  ·
    refine mw_if_eqN C 19 d_Wl_isActive_4 (by decide) (by omega) (fun h4 => ?_) (fun h4 => ?_)
    · exact absurd h4 (by decide)
    ·
      refine mw_iload_n C 1 d_Wl_isActive_7 rfl rfl ?_
      refine mw_aload_n C 0 d_Wl_isActive_8 rfl rfl ?_
      refine mw_geti C f_Wl_26 d_Wl_isActive_9 (by decide) rfl rfl ?_
      refine mw_icmp_eq C 19 d_Wl_isActive_12 (by decide) (fun h12 => ?_) (fun h12 => ?_)
      ·
        refine mw_iconst C (v := nI 0) d_Wl_isActive_19 (by decide) ?_
        refine mw_zret C hR d_Wl_isActive_20 (by decide) ?_
        exact Or.inr ⟨rfl, fun ⟨k, _, _, h⟩ => h h12⟩
      ·
        refine mw_iconst C (v := nI 1) d_Wl_isActive_15 (by decide) ?_
        refine mw_goto C 20 d_Wl_isActive_16 (by decide) ?_
        refine mw_zret C hR d_Wl_isActive_20 (by decide) ?_
        obtain ⟨k, hk1, hk2⟩ := hk
        exact Or.inl ⟨rfl, k, hk1, hk2, h12⟩
  ·
    refine mw_if_eqN C 19 d_Wl_isActive_4 (by decide) (by omega) (fun h4 => ?_) (fun h4 => ?_)
    ·
      refine mw_iconst C (v := nI 0) d_Wl_isActive_19 (by decide) ?_
      refine mw_zret C hR d_Wl_isActive_20 (by decide) ?_
      exact Or.inr ⟨rfl, fun ⟨k, h1, h2, _⟩ => hk ⟨k, h1, h2⟩⟩
    · exact absurd h4 (by decide)
def tOK (x : Int32) : Prop := x = 0 ∨ ∃ t, x = nI t ∧ 1000 ≤ t ∧ t < 100000 ∧ t % 1000 / 10 < 4 ∧ t % 10 < 4
theorem neg_div {x : Int32} (h : x < 0) : x / nI 1000 < nI 1 := by
  rw [Int32.lt_iff_toInt_lt] at h ⊢
  have h1 := Int32.le_toInt x
  have e0 : (0 : Int32).toInt = 0 := by decide
  have e1 : (nI 1).toInt = 1 := by decide
  have e2 : (nI 1000).toInt = 1000 := by decide
  rw [e0] at h
  rw [e1, Int32.toInt_div, e2]
  have h2 : (-2147483648 : Int) ≤ x.toInt := h1
  have h3 : x.toInt.tdiv 1000 = -((-x.toInt) / 1000) := by
    rw [← Int.neg_neg x.toInt, Int.neg_tdiv, Int.tdiv_eq_ediv_of_nonneg (by omega), Int.neg_neg]
  rw [h3, Int.bmod_def]
  omega
set_option maxHeartbeats 4000000 in
set_option maxRecDepth 100000 in
theorem m_Wl_isTransferOrNone (l : Launch) (D : va_G) (cA : Nat → ClassId) (x : Int32) (S : mw_S) : mw_M false l lw_tbl y_Wl_isTransferOrNone b_Wl_isTransferOrNone 2 (some .boolean) { frames := 1, cells := 0, slots := 0, locals := 20 } D vCl cA sh0 0 [.inl x] (S) (mw_Pi (fun r _ => (r = nI 1 ∧ tOK x) ∨ (r = nI 0 ∧ ¬ tOK x))) := by
  refine mw_M_of (by decide) (Nat.le_of_ble_eq_true rfl) ?_
  intro p e s m args below meth c A ad C hR
  refine mw_iload_n C 0 d_Wl_isTransferOrNone_0 rfl rfl ?_
  refine mw_if_ne C 6 d_Wl_isTransferOrNone_1 (by decide) (fun h1 => ?_) (fun h1 => ?_)
  ·
    by_cases hx : x < 0
    ·
      have hno : ¬ tOK x := by
        rintro (h | ⟨t, h, -, ht, -⟩)
        · exact h1 h
        · rw [h] at hx; exact nI_pos (by omega) hx
      refine mw_iload_n C 0 d_Wl_isTransferOrNone_6 rfl rfl ?_
      refine mw_sipush C (v := nI 1000) d_Wl_isTransferOrNone_7 (by decide) ?_
      refine mw_idiv C d_Wl_isTransferOrNone_10 (by decide) ?_
      refine mw_istore_n C 1 d_Wl_isTransferOrNone_11 rfl (by decide) ?_
      refine mw_iload_n C 1 d_Wl_isTransferOrNone_12 rfl rfl ?_
      refine mw_iconst C (v := nI 1) d_Wl_isTransferOrNone_13 (by decide) ?_
      refine mw_icmp_lt C 47 d_Wl_isTransferOrNone_14 (by decide) (fun h14 => ?_) (fun h14 => ?_)
      ·
        refine mw_iconst C (v := nI 0) d_Wl_isTransferOrNone_47 (by decide) ?_
        refine mw_zret C hR d_Wl_isTransferOrNone_48 (by decide) ?_
        exact Or.inr ⟨rfl, hno⟩
      · exact absurd (neg_div hx) h14
    ·
      obtain ⟨t, ht, rfl⟩ := nI_of hx
      have hcon : ¬ (1000 ≤ t ∧ t < 100000 ∧ t % 1000 / 10 < 4 ∧ t % 10 < 4) → ¬ tOK (nI t) := by
        rintro h (h0 | ⟨t', h0, h2, h3, h4, h5⟩)
        · exact h1 h0
        · rw [(nI_eq ht (by omega)).mp h0] at h
          exact h ⟨h2, h3, h4, h5⟩
      refine mw_iload_n C 0 d_Wl_isTransferOrNone_6 rfl rfl ?_
      refine mw_sipush C (v := nI 1000) d_Wl_isTransferOrNone_7 (by decide) ?_
      refine mw_idivN C d_Wl_isTransferOrNone_10 (by omega) (by decide) (by decide) ?_
      refine mw_istore_n C 1 d_Wl_isTransferOrNone_11 rfl (by decide) ?_
      refine mw_iload_n C 1 d_Wl_isTransferOrNone_12 rfl rfl ?_
      refine mw_iconst C (v := nI 1) d_Wl_isTransferOrNone_13 (by decide) ?_
      refine mw_icmp_ltN C 47 d_Wl_isTransferOrNone_14 (by decide) (by omega) (by omega) (fun h14 => ?_) (fun h14 => ?_)
      ·
        refine mw_iconst C (v := nI 0) d_Wl_isTransferOrNone_47 (by decide) ?_
        refine mw_zret C hR d_Wl_isTransferOrNone_48 (by decide) ?_
        exact Or.inr ⟨rfl, hcon (by omega)⟩
      ·
        refine mw_iload_n C 1 d_Wl_isTransferOrNone_17 rfl rfl ?_
        refine mw_bipush C (v := nI 99) d_Wl_isTransferOrNone_18 (by decide) ?_
        refine mw_icmp_gtN C 47 d_Wl_isTransferOrNone_20 (by decide) (by omega) (by omega) (fun h20 => ?_) (fun h20 => ?_)
        ·
          refine mw_iconst C (v := nI 0) d_Wl_isTransferOrNone_47 (by decide) ?_
          refine mw_zret C hR d_Wl_isTransferOrNone_48 (by decide) ?_
          exact Or.inr ⟨rfl, hcon (by omega)⟩
        ·
          refine mw_iload_n C 0 d_Wl_isTransferOrNone_23 rfl rfl ?_
          refine mw_run0i C (ix0 _ _) (mw_invS C (m_Wl_payerOf l D cA t ht _) (ix0 _ _) kb_Wl_211 ws_Wl_payerOf d_Wl_isTransferOrNone_24 rfl rfl (Nat.le_of_ble_eq_true rfl) rfl rfl ⟨by decide, by decide⟩ ⟨Nat.zero_le _, Nat.zero_le _⟩) (fun x24 e24 => ?_)
          subst e24
          refine mw_run0i C (ix0 _ _) (mw_invS C (m_Wl_isAccount l D cA _ _) (ix0 _ _) kb_Wl_48 ws_Wl_isAccount d_Wl_isTransferOrNone_27 rfl rfl (Nat.le_of_ble_eq_true rfl) rfl rfl ⟨by decide, by decide⟩ ⟨Nat.zero_le _, Nat.zero_le _⟩) (fun x27 e27 => ?_)
          rcases e27 with ⟨rfl, k, hk, hke⟩ | ⟨rfl, hk⟩
          ·
            have hk2 := (nI_eq (by omega) (by omega)).mp hke
            refine mw_if_eqN C 47 d_Wl_isTransferOrNone_30 (by decide) (by omega) (fun h30 => ?_) (fun h30 => ?_)
            · exact absurd h30 (by decide)
            ·
              refine mw_iload_n C 0 d_Wl_isTransferOrNone_33 rfl rfl ?_
              refine mw_run0i C (ix0 _ _) (mw_invS C (m_Wl_payeeOf l D cA t ht _) (ix0 _ _) kb_Wl_214 ws_Wl_payeeOf d_Wl_isTransferOrNone_34 rfl rfl (Nat.le_of_ble_eq_true rfl) rfl rfl ⟨by decide, by decide⟩ ⟨Nat.zero_le _, Nat.zero_le _⟩) (fun x34 e34 => ?_)
              subst e34
              refine mw_run0i C (ix0 _ _) (mw_invS C (m_Wl_isAccount l D cA _ _) (ix0 _ _) kb_Wl_48 ws_Wl_isAccount d_Wl_isTransferOrNone_37 rfl rfl (Nat.le_of_ble_eq_true rfl) rfl rfl ⟨by decide, by decide⟩ ⟨Nat.zero_le _, Nat.zero_le _⟩) (fun x37 e37 => ?_)
              rcases e37 with ⟨rfl, k3, hk3, hke3⟩ | ⟨rfl, hk3⟩
              ·
                have hk4 := (nI_eq (by omega) (by omega)).mp hke3
                refine mw_if_eqN C 47 d_Wl_isTransferOrNone_40 (by decide) (by omega) (fun h40 => ?_) (fun h40 => ?_)
                · exact absurd h40 (by decide)
                ·
                  refine mw_iconst C (v := nI 1) d_Wl_isTransferOrNone_43 (by decide) ?_
                  refine mw_goto C 48 d_Wl_isTransferOrNone_44 (by decide) ?_
                  refine mw_zret C hR d_Wl_isTransferOrNone_48 (by decide) ?_
                  exact Or.inl ⟨rfl, Or.inr ⟨t, rfl, by omega, by omega, by omega, by omega⟩⟩
              ·
                refine mw_if_eqN C 47 d_Wl_isTransferOrNone_40 (by decide) (by omega) (fun h40 => ?_) (fun h40 => ?_)
                ·
                  refine mw_iconst C (v := nI 0) d_Wl_isTransferOrNone_47 (by decide) ?_
                  refine mw_zret C hR d_Wl_isTransferOrNone_48 (by decide) ?_
                  exact Or.inr ⟨rfl, hcon (fun h => hk3 ⟨t % 10, h.2.2.2, rfl⟩)⟩
                · exact absurd h40 (by decide)
          ·
            refine mw_if_eqN C 47 d_Wl_isTransferOrNone_30 (by decide) (by omega) (fun h30 => ?_) (fun h30 => ?_)
            ·
              refine mw_iconst C (v := nI 0) d_Wl_isTransferOrNone_47 (by decide) ?_
              refine mw_zret C hR d_Wl_isTransferOrNone_48 (by decide) ?_
              exact Or.inr ⟨rfl, hcon (fun h => hk ⟨t % 1000 / 10, h.2.2.1, rfl⟩)⟩
            · exact absurd h30 (by decide)
  ·
    refine mw_iconst C (v := nI 1) d_Wl_isTransferOrNone_4 (by decide) ?_
    refine mw_zret C hR d_Wl_isTransferOrNone_5 (by decide) ?_
    exact Or.inl ⟨rfl, Or.inl h1⟩
