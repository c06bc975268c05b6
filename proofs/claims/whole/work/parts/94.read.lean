/-! what is read of the ledger -/
theorem out_of {x : Int32} {n : Nat} (hn : n < 2 ^ 31) (h : ¬ wIn 0 n x) : x.toInt < 0 ∨ (n : Int) < x.toInt := by
  by_cases h1 : x.toInt < 0
  · exact Or.inl h1
  · by_cases h2 : (n : Int) < x.toInt
    · exact Or.inr h2
    · exfalso
      have e0 : (0 : Int32).toInt = 0 := by decide
      obtain ⟨k, hk, rfl⟩ := nI_of2 (x := x) (nI_toInt hn) (by rw [Int32.lt_iff_toInt_lt, e0]; exact h1) (by rw [Int32.le_iff_toInt_le, nI_toInt hn]; omega)
      exact h ⟨k, Nat.zero_le _, hk, rfl⟩
set_option maxHeartbeats 4000000 in
set_option maxRecDepth 100000 in
theorem m_Wl_message_1 (l : Launch) (D : va_G) (cA : Nat → ClassId) (cn : Int32) (σ : aS) (fy : Nat) (x1 x2 : Int32) (S : mw_S) (h : cR cn fy σ S) (hm : σ.1 0 12 ≤ 2240) (hno : ¬ (wLt (σ.1 0 12) x1 ∧ wIn 0 3 x2)) : mw_M false l lw_tbl y_Wl_message b_Wl_message 4 (some .int) { frames := 1, cells := 0, slots := 0, locals := 21 } D vCl cA sh_Wl 69 [.inr (.inr 0), .inl x1, .inl x2] (S) (mw_Pi (fun z _ => z = -1)) := by
  refine mw_M_of (by decide) (Nat.le_of_ble_eq_true rfl) ?_
  intro p e s m args below meth c A ad C hR
  refine mw_aload_n C 0 d_Wl_message_0 rfl rfl ?_
  refine mw_getr C f_Wl_34 d_Wl_message_1 (by decide) rfl rfl ?_
  refine mw_iload_n C 1 d_Wl_message_4 rfl rfl ?_
  refine mw_run0i C ix_Ma_Wl (mw_invV C (kk := 0) (m_Ma_has l D cA x1 _ (σ.1 0 12) (by omega) h.2.2.2.2.1.mc) ix_Ma_Wl kb_Wl_95 wm_Ma_has wv_Ma_has (by decide) rfl rfl d_Wl_message_5 rfl rfl (Nat.le_of_ble_eq_true rfl) rfl rfl ⟨by decide, by decide⟩ ⟨Nat.zero_le _, Nat.zero_le _⟩) (fun x5 e5 => ?_)
  rcases e5 with ⟨rfl, k, hk, rfl⟩ | ⟨rfl, hk⟩
  ·
    refine mw_if_neN C 13 d_Wl_message_8 (by decide) (by omega) (fun h8 => ?_) (fun h8 => ?_)
    ·
      refine mw_aload_n C 0 d_Wl_message_13 rfl rfl ?_
      refine mw_getr C f_Wl_34 d_Wl_message_14 (by decide) rfl rfl ?_
      refine mw_getr C f_Wl_129 d_Wl_message_17 (by decide) rfl rfl ?_
      refine mw_iload_n C 1 d_Wl_message_20 rfl rfl ?_
      refine mw_ialdN C d_Wl_message_21 (by decide) rfl (by omega) (by decide) ?_
      refine mw_istore_n C 3 d_Wl_message_22 rfl (by decide) ?_
      refine mw_iload_n C 2 d_Wl_message_23 rfl rfl ?_
      refine mw_tableOut C 76 d_Wl_message_24 (out_of (n := 3) (by decide) (fun hh => hno ⟨⟨k, hk, rfl⟩, hh⟩)) (by decide) ?_
      refine mw_iconst C (v := (-1)) d_Wl_message_76 (by decide) ?_
      refine mw_iret C hR d_Wl_message_77 ?_
      rfl
    · exfalso; omega
  ·
    refine mw_if_neN C 13 d_Wl_message_8 (by decide) (by omega) (fun h8 => ?_) (fun h8 => ?_)
    · exfalso; omega
    ·
      refine mw_iconst C (v := (-1)) d_Wl_message_11 (by decide) ?_
      refine mw_iret C hR d_Wl_message_12 ?_
      rfl
set_option maxHeartbeats 4000000 in
set_option maxRecDepth 100000 in
theorem m_Wl_message_0 (l : Launch) (D : va_G) (cA : Nat → ClassId) (cn : Int32) (σ : aS) (fy k j : Nat) (S : mw_S) (h : cR cn fy σ S) (hm : σ.1 0 12 ≤ 2240) (hk : k < σ.1 0 12) (hj : j ≤ 3) (hw : σ.1 5 k < 3840) : mw_M false l lw_tbl y_Wl_message b_Wl_message 4 (some .int) { frames := 1, cells := 0, slots := 0, locals := 21 } D vCl cA sh_Wl 69 [.inr (.inr 0), .inl (nI k), .inl (nI j)] (S) (mw_Pi (fun z _ => z = nI (a_part (σ.1 5 k) j))) := by
  refine mw_M_of (by decide) (Nat.le_of_ble_eq_true rfl) ?_
  intro p e s m args below meth c A ad C hR
  obtain ⟨hsd, hrc, hsb, hkd, hcl⟩ := cls4 hw
  refine mw_aload_n C 0 d_Wl_message_0 rfl rfl ?_
  refine mw_getr C f_Wl_34 d_Wl_message_1 (by decide) rfl rfl ?_
  refine mw_iload_n C 1 d_Wl_message_4 rfl rfl ?_
  refine mw_run0i C ix_Ma_Wl (mw_invV C (kk := 0) (m_Ma_has l D cA (nI k) _ (σ.1 0 12) (by omega) h.2.2.2.2.1.mc) ix_Ma_Wl kb_Wl_95 wm_Ma_has wv_Ma_has (by decide) rfl rfl d_Wl_message_5 rfl rfl (Nat.le_of_ble_eq_true rfl) rfl rfl ⟨by decide, by decide⟩ ⟨Nat.zero_le _, Nat.zero_le _⟩) (fun x5 e5 => ?_)
  rcases e5 with ⟨rfl, hk2⟩ | ⟨rfl, hk2⟩
  ·
    refine mw_if_neN C 13 d_Wl_message_8 (by decide) (by omega) (fun h8 => ?_) (fun h8 => ?_)
    ·
      refine mw_aload_n C 0 d_Wl_message_13 rfl rfl ?_
      refine mw_getr C f_Wl_34 d_Wl_message_14 (by decide) rfl rfl ?_
      refine mw_getr C f_Wl_129 d_Wl_message_17 (by decide) rfl rfl ?_
      refine mw_iload_n C 1 d_Wl_message_20 rfl rfl ?_
      refine mw_ialdN C d_Wl_message_21 (by decide) rfl (by omega) (by decide) ?_
      refine mw_eqi (show _ = nI (a_cls (σ.1 5 k)) from h.2.2.2.2.1.mw k hk) ?_
      refine mw_istore_n C 3 d_Wl_message_22 rfl (by decide) ?_
      refine mw_iload_n C 2 d_Wl_message_23 rfl rfl ?_
      have hj4 : j = 0 ∨ j = 1 ∨ j = 2 ∨ j = 3 := by omega
      rcases hj4 with rfl | rfl | rfl | rfl
      ·
        refine mw_tableIn C 56 d_Wl_message_24 (by decide) (by decide) (off := 32) (by decide) (by decide) ?_
        refine mw_iload_n C 3 d_Wl_message_56 rfl rfl ?_
        refine mw_run0i C (ix0 _ _) (mw_invS C (m_Ma_kindOf l D cA (a_cls (σ.1 5 k)) hcl _) (ix0 _ _) kb_Wl_133 ws_Ma_kindOf d_Wl_message_57 rfl rfl (Nat.le_of_ble_eq_true rfl) rfl rfl ⟨by decide, by decide⟩ ⟨Nat.zero_le _, Nat.zero_le _⟩) (fun x57 e57 => ?_)
        subst e57
        refine mw_iret C hR d_Wl_message_60 ?_
        rw [hkd]
        rfl
      ·
        refine mw_tableIn C 61 d_Wl_message_24 (by decide) (by decide) (off := 37) (by decide) (by decide) ?_
        refine mw_iload_n C 3 d_Wl_message_61 rfl rfl ?_
        refine mw_run0i C (ix0 _ _) (mw_invS C (m_Ma_senderOf l D cA (a_cls (σ.1 5 k)) hcl _) (ix0 _ _) kb_Wl_137 ws_Ma_senderOf d_Wl_message_62 rfl rfl (Nat.le_of_ble_eq_true rfl) rfl rfl ⟨by decide, by decide⟩ ⟨Nat.zero_le _, Nat.zero_le _⟩) (fun x62 e62 => ?_)
        subst e62
        refine mw_iret C hR d_Wl_message_65 ?_
        rw [hsd]
        rfl
      ·
        refine mw_tableIn C 66 d_Wl_message_24 (by decide) (by decide) (off := 42) (by decide) (by decide) ?_
        refine mw_iload_n C 3 d_Wl_message_66 rfl rfl ?_
        refine mw_run0i C (ix0 _ _) (mw_invS C (m_Ma_receiverOf l D cA (a_cls (σ.1 5 k)) hcl _) (ix0 _ _) kb_Wl_140 ws_Ma_receiverOf d_Wl_message_67 rfl rfl (Nat.le_of_ble_eq_true rfl) rfl rfl ⟨by decide, by decide⟩ ⟨Nat.zero_le _, Nat.zero_le _⟩) (fun x67 e67 => ?_)
        subst e67
        refine mw_iret C hR d_Wl_message_70 ?_
        rw [hrc]
        rfl
      ·
        refine mw_tableIn C 71 d_Wl_message_24 (by decide) (by decide) (off := 47) (by decide) (by decide) ?_
        refine mw_iload_n C 3 d_Wl_message_71 rfl rfl ?_
        refine mw_run0i C (ix0 _ _) (mw_invS C (m_Ma_subjectOf l D cA (a_cls (σ.1 5 k)) hcl _) (ix0 _ _) kb_Wl_143 ws_Ma_subjectOf d_Wl_message_72 rfl rfl (Nat.le_of_ble_eq_true rfl) rfl rfl ⟨by decide, by decide⟩ ⟨Nat.zero_le _, Nat.zero_le _⟩) (fun x72 e72 => ?_)
        subst e72
        refine mw_iret C hR d_Wl_message_75 ?_
        rw [hsb]
        rfl
    · exfalso; omega
  · exact absurd ⟨k, hk, rfl⟩ hk2
set_option maxHeartbeats 4000000 in
set_option maxRecDepth 100000 in
theorem m_Wl_vertex_1 (l : Launch) (D : va_G) (cA : Nat → ClassId) (cn : Int32) (σ : aS) (fy : Nat) (x1 x2 : Int32) (S : mw_S) (h : cR cn fy σ S) (hvs : σ.1 0 5 < 73) (hno : ¬ (wIn 1 (σ.1 0 5) x1 ∧ wIn 0 2 x2)) : mw_M false l lw_tbl y_Wl_vertex b_Wl_vertex 3 (some .int) { frames := 1, cells := 0, slots := 0, locals := 21 } D vCl cA sh_Wl 69 [.inr (.inr 0), .inl x1, .inl x2] (S) (mw_Pi (fun z _ => z = -1)) := by
  refine mw_M_of (by decide) (Nat.le_of_ble_eq_true rfl) ?_
  intro p e s m args below meth c A ad C hR
  refine mw_aload_n C 0 d_Wl_vertex_0 rfl rfl ?_
  refine mw_getr C f_Wl_30 d_Wl_vertex_1 (by decide) rfl rfl ?_
  refine mw_iload_n C 1 d_Wl_vertex_4 rfl rfl ?_
  refine mw_run0i C ix_Ve_Wl (mw_invV C (kk := 0) (m_Ve_has l D cA x1 _ (σ.1 0 5) (by omega) h.2.2.2.2.1.vn) ix_Ve_Wl kb_Wl_120 wm_Ve_has wv_Ve_has (by decide) rfl rfl d_Wl_vertex_5 rfl rfl (Nat.le_of_ble_eq_true rfl) rfl rfl ⟨by decide, by decide⟩ ⟨Nat.zero_le _, Nat.zero_le _⟩) (fun x5 e5 => ?_)
  rcases e5 with ⟨rfl, hk⟩ | ⟨rfl, hk⟩
  ·
    refine mw_if_neN C 13 d_Wl_vertex_8 (by decide) (by omega) (fun h8 => ?_) (fun h8 => ?_)
    ·
      refine mw_iload_n C 2 d_Wl_vertex_13 rfl rfl ?_
      refine mw_tableOut C 70 d_Wl_vertex_14 (out_of (n := 2) (by decide) (fun hh => hno ⟨hk, hh⟩)) (by decide) ?_
      refine mw_iconst C (v := (-1)) d_Wl_vertex_70 (by decide) ?_
      refine mw_iret C hR d_Wl_vertex_71 ?_
      rfl
    · exfalso; omega
  ·
    refine mw_if_neN C 13 d_Wl_vertex_8 (by decide) (by omega) (fun h8 => ?_) (fun h8 => ?_)
    · exfalso; omega
    ·
      refine mw_iconst C (v := (-1)) d_Wl_vertex_11 (by decide) ?_
      refine mw_iret C hR d_Wl_vertex_12 ?_
      rfl
set_option maxHeartbeats 4000000 in
set_option maxRecDepth 100000 in
theorem m_Wl_vertex_0 (l : Launch) (D : va_G) (cA : Nat → ClassId) (cn : Int32) (σ : aS) (fy v j : Nat) (S : mw_S) (h : cR cn fy σ S) (hvs : σ.1 0 5 < 73) (hv1 : 1 ≤ v) (hv2 : v ≤ σ.1 0 5) (hj : j ≤ 2) : mw_M false l lw_tbl y_Wl_vertex b_Wl_vertex 3 (some .int) { frames := 1, cells := 0, slots := 0, locals := 21 } D vCl cA sh_Wl 69 [.inr (.inr 0), .inl (nI v), .inl (nI j)] (S) (mw_Pi (fun z _ => z = nI (if j = 0 then σ.1 1 v else if j = 1 then σ.1 2 v else σ.1 4 v))) := by
  refine mw_M_of (by decide) (Nat.le_of_ble_eq_true rfl) ?_
  intro p e s m args below meth c A ad C hR
  refine mw_aload_n C 0 d_Wl_vertex_0 rfl rfl ?_
  refine mw_getr C f_Wl_30 d_Wl_vertex_1 (by decide) rfl rfl ?_
  refine mw_iload_n C 1 d_Wl_vertex_4 rfl rfl ?_
  refine mw_run0i C ix_Ve_Wl (mw_invV C (kk := 0) (m_Ve_has l D cA (nI v) _ (σ.1 0 5) (by omega) h.2.2.2.2.1.vn) ix_Ve_Wl kb_Wl_120 wm_Ve_has wv_Ve_has (by decide) rfl rfl d_Wl_vertex_5 rfl rfl (Nat.le_of_ble_eq_true rfl) rfl rfl ⟨by decide, by decide⟩ ⟨Nat.zero_le _, Nat.zero_le _⟩) (fun x5 e5 => ?_)
  rcases e5 with ⟨rfl, hk⟩ | ⟨rfl, hk⟩
  ·
    refine mw_if_neN C 13 d_Wl_vertex_8 (by decide) (by omega) (fun h8 => ?_) (fun h8 => ?_)
    ·
      refine mw_iload_n C 2 d_Wl_vertex_13 rfl rfl ?_
      have hj4 : j = 0 ∨ j = 1 ∨ j = 2 := by omega
      rcases hj4 with rfl | rfl | rfl
      ·
        refine mw_tableIn C 40 d_Wl_vertex_14 (by decide) (by decide) (off := 26) (by decide) (by decide) ?_
        refine mw_aload_n C 0 d_Wl_vertex_40 rfl rfl ?_
        refine mw_getr C f_Wl_30 d_Wl_vertex_41 (by decide) rfl rfl ?_
        refine mw_getr C f_Wl_146 d_Wl_vertex_44 (by decide) rfl rfl ?_
        refine mw_iload_n C 1 d_Wl_vertex_47 rfl rfl ?_
        refine mw_ialdN C d_Wl_vertex_48 (by decide) rfl (by omega) (by decide) ?_
        refine mw_iret C hR d_Wl_vertex_49 ?_
        exact h.2.2.2.2.1.vp v (by omega)
      ·
        refine mw_tableIn C 50 d_Wl_vertex_14 (by decide) (by decide) (off := 36) (by decide) (by decide) ?_
        refine mw_aload_n C 0 d_Wl_vertex_50 rfl rfl ?_
        refine mw_getr C f_Wl_30 d_Wl_vertex_51 (by decide) rfl rfl ?_
        refine mw_getr C f_Wl_149 d_Wl_vertex_54 (by decide) rfl rfl ?_
        refine mw_iload_n C 1 d_Wl_vertex_57 rfl rfl ?_
        refine mw_ialdN C d_Wl_vertex_58 (by decide) rfl (by omega) (by decide) ?_
        refine mw_iret C hR d_Wl_vertex_59 ?_
        exact h.2.2.2.2.1.vs v (by omega)
      ·
        refine mw_tableIn C 60 d_Wl_vertex_14 (by decide) (by decide) (off := 46) (by decide) (by decide) ?_
        refine mw_aload_n C 0 d_Wl_vertex_60 rfl rfl ?_
        refine mw_getr C f_Wl_30 d_Wl_vertex_61 (by decide) rfl rfl ?_
        refine mw_getr C f_Wl_152 d_Wl_vertex_64 (by decide) rfl rfl ?_
        refine mw_iload_n C 1 d_Wl_vertex_67 rfl rfl ?_
        refine mw_ialdN C d_Wl_vertex_68 (by decide) rfl (by omega) (by decide) ?_
        refine mw_iret C hR d_Wl_vertex_69 ?_
        exact h.2.2.2.2.1.vt v (by omega)
    · exfalso; omega
  · exact absurd ⟨v, hv1, hv2, rfl⟩ hk
set_option maxHeartbeats 4000000 in
set_option maxRecDepth 100000 in
theorem m_Wl_weak_1 (l : Launch) (D : va_G) (cA : Nat → ClassId) (cn : Int32) (σ : aS) (fy : Nat) (x1 : Int32) (S : mw_S) (h : cR cn fy σ S) (hvs : σ.1 0 5 < 73) (hno : ¬ wIn 1 (σ.1 0 5) x1) : mw_M false l lw_tbl y_Wl_weak b_Wl_weak 2 (some .long) { frames := 1, cells := 0, slots := 0, locals := 21 } D vCl cA sh_Wl 69 [.inr (.inr 0), .inl x1] (S) (mw_Pl (fun z _ => z = -1)) := by
  refine mw_M_of (by decide) (Nat.le_of_ble_eq_true rfl) ?_
  intro p e s m args below meth c A ad C hR
  refine mw_aload_n C 0 d_Wl_weak_0 rfl rfl ?_
  refine mw_getr C f_Wl_30 d_Wl_weak_1 (by decide) rfl rfl ?_
  refine mw_iload_n C 1 d_Wl_weak_4 rfl rfl ?_
  refine mw_run0i C ix_Ve_Wl (mw_invV C (kk := 0) (m_Ve_has l D cA x1 _ (σ.1 0 5) (by omega) h.2.2.2.2.1.vn) ix_Ve_Wl kb_Wl_120 wm_Ve_has wv_Ve_has (by decide) rfl rfl d_Wl_weak_5 rfl rfl (Nat.le_of_ble_eq_true rfl) rfl rfl ⟨by decide, by decide⟩ ⟨Nat.zero_le _, Nat.zero_le _⟩) (fun x5 e5 => ?_)
  rcases e5 with ⟨rfl, hk⟩ | ⟨rfl, hk⟩
  · exact absurd hk hno
  ·
    refine mw_if_eqN C 23 d_Wl_weak_8 (by decide) (by omega) (fun h8 => ?_) (fun h8 => ?_)
    ·
      refine mw_ldc2 C kc_Wl_159 d_Wl_weak_23 ?_
      refine mw_lret C hR d_Wl_weak_26 ?_
      rfl
    · exfalso; omega
set_option maxHeartbeats 4000000 in
set_option maxRecDepth 100000 in
theorem m_Wl_weak_0 (l : Launch) (D : va_G) (cA : Nat → ClassId) (cn : Int32) (σ : aS) (fy v : Nat) (S : mw_S) (h : cR cn fy σ S) (hvs : σ.1 0 5 < 73) (hv1 : 1 ≤ v) (hv2 : v ≤ σ.1 0 5) : mw_M false l lw_tbl y_Wl_weak b_Wl_weak 2 (some .long) { frames := 1, cells := 0, slots := 0, locals := 21 } D vCl cA sh_Wl 69 [.inr (.inr 0), .inl (nI v)] (S) (mw_Pl (fun z _ => z = σ.2.1 v)) := by
  refine mw_M_of (by decide) (Nat.le_of_ble_eq_true rfl) ?_
  intro p e s m args below meth c A ad C hR
  refine mw_aload_n C 0 d_Wl_weak_0 rfl rfl ?_
  refine mw_getr C f_Wl_30 d_Wl_weak_1 (by decide) rfl rfl ?_
  refine mw_iload_n C 1 d_Wl_weak_4 rfl rfl ?_
  refine mw_run0i C ix_Ve_Wl (mw_invV C (kk := 0) (m_Ve_has l D cA (nI v) _ (σ.1 0 5) (by omega) h.2.2.2.2.1.vn) ix_Ve_Wl kb_Wl_120 wm_Ve_has wv_Ve_has (by decide) rfl rfl d_Wl_weak_5 rfl rfl (Nat.le_of_ble_eq_true rfl) rfl rfl ⟨by decide, by decide⟩ ⟨Nat.zero_le _, Nat.zero_le _⟩) (fun x5 e5 => ?_)
  rcases e5 with ⟨rfl, hk⟩ | ⟨rfl, hk⟩
  ·
    refine mw_if_eqN C 23 d_Wl_weak_8 (by decide) (by omega) (fun h8 => ?_) (fun h8 => ?_)
    · exfalso; omega
    ·
      refine mw_aload_n C 0 d_Wl_weak_11 rfl rfl ?_
      refine mw_getr C f_Wl_30 d_Wl_weak_12 (by decide) rfl rfl ?_
      refine mw_getr C f_Wl_155 d_Wl_weak_15 (by decide) rfl rfl ?_
      refine mw_iload_n C 1 d_Wl_weak_18 rfl rfl ?_
      refine mw_laldN C d_Wl_weak_19 (by decide) rfl (by omega) (by decide) ?_
      refine mw_goto C 26 d_Wl_weak_20 (by decide) ?_
      refine mw_lret C hR d_Wl_weak_26 ?_
      exact h.2.2.2.2.1.vw v (by omega)
  · exact absurd ⟨v, hv1, hv2, rfl⟩ hk
set_option maxHeartbeats 4000000 in
set_option maxRecDepth 100000 in
theorem m_Wl_graph_1 (l : Launch) (D : va_G) (cA : Nat → ClassId) (x1 x2 : Int32) (S : mw_S) (hno : ¬ (wIsN x1 ∧ wIn 0 47 x2)) : mw_M false l lw_tbl y_Wl_graph b_Wl_graph 4 (some .int) { frames := 2, cells := 0, slots := 0, locals := 43 } D vCl cA sh_Wl 69 [.inr (.inr 0), .inl x1, .inl x2] (S) (mw_Pi (fun z _ => z = nI 0)) := by
  refine mw_M_of (by decide) (Nat.le_of_ble_eq_true rfl) ?_
  intro p e s m args below meth c A ad C hR
  refine mw_iload_n C 1 d_Wl_graph_0 rfl rfl ?_
  refine mw_run0i C (ix0 _ _) (mw_invS C (m_Wl_isNode l D cA x1 _) (ix0 _ _) kb_Wl_9 ws_Wl_isNode d_Wl_graph_1 rfl rfl (Nat.le_of_ble_eq_true rfl) rfl rfl ⟨by decide, by decide⟩ ⟨Nat.zero_le _, Nat.zero_le _⟩) (fun x1 e1 => ?_)
  rcases e1 with ⟨rfl, hk⟩ | ⟨rfl, hk⟩
  ·
    refine mw_if_eqN C 17 d_Wl_graph_4 (by decide) (by omega) (fun h4 => ?_) (fun h4 => ?_)
    · exfalso; omega
    ·
      refine mw_iload_n C 2 d_Wl_graph_7 rfl rfl ?_
      refine mw_if_lt C 17 d_Wl_graph_8 (by decide) (fun h8 => ?_) (fun h8 => ?_)
      ·
        refine mw_iconst C (v := nI 0) d_Wl_graph_17 (by decide) ?_
        refine mw_iret C hR d_Wl_graph_18 ?_
        rfl
      ·
        refine mw_iload_n C 2 d_Wl_graph_11 rfl rfl ?_
        refine mw_bipush C (v := nI 48) d_Wl_graph_12 (by decide) ?_
        refine mw_icmp_lt C 19 d_Wl_graph_14 (by decide) (fun h14 => ?_) (fun h14 => ?_)
        ·
          obtain ⟨k, hk3, rfl⟩ := wLt_of (by decide) h8 h14
          exact absurd ⟨hk, ⟨k, Nat.zero_le _, by omega, rfl⟩⟩ hno
        ·
          refine mw_iconst C (v := nI 0) d_Wl_graph_17 (by decide) ?_
          refine mw_iret C hR d_Wl_graph_18 ?_
          rfl
  ·
    refine mw_if_eqN C 17 d_Wl_graph_4 (by decide) (by omega) (fun h4 => ?_) (fun h4 => ?_)
    ·
      refine mw_iconst C (v := nI 0) d_Wl_graph_17 (by decide) ?_
      refine mw_iret C hR d_Wl_graph_18 ?_
      rfl
    · exfalso; omega
set_option maxHeartbeats 4000000 in
set_option maxRecDepth 100000 in
theorem m_Wl_graph_0 (l : Launch) (D : va_G) (cA : Nat → ClassId) (cn : Int32) (σ : aS) (fy B node q : Nat) (S : mw_S) (h : cR cn fy σ S) (hI : aI fy B σ) (hn : node < 4) (hq : q < 48) : mw_M false l lw_tbl y_Wl_graph b_Wl_graph 4 (some .int) { frames := 2, cells := 0, slots := 0, locals := 43 } D vCl cA sh_Wl 69 [.inr (.inr 0), .inl (nI node), .inl (nI q)] (S) (mw_Pi (fun z _ => z = (if σ.1 9 (48 * node + q) = 0 then -(nI (σ.1 8 (48 * node + q))) else nI (σ.1 8 (48 * node + q))))) := by
  refine mw_M_of (by decide) (Nat.le_of_ble_eq_true rfl) ?_
  intro p e s m args below meth c A ad C hR
  refine mw_iload_n C 1 d_Wl_graph_0 rfl rfl ?_
  refine mw_run0i C (ix0 _ _) (mw_invS C (m_Wl_isNode l D cA (nI node) _) (ix0 _ _) kb_Wl_9 ws_Wl_isNode d_Wl_graph_1 rfl rfl (Nat.le_of_ble_eq_true rfl) rfl rfl ⟨by decide, by decide⟩ ⟨Nat.zero_le _, Nat.zero_le _⟩) (fun x1 e1 => ?_)
  rcases e1 with ⟨rfl, hk⟩ | ⟨rfl, hk⟩
  ·
    refine mw_if_eqN C 17 d_Wl_graph_4 (by decide) (by omega) (fun h4 => ?_) (fun h4 => ?_)
    · exfalso; omega
    ·
      refine mw_iload_n C 2 d_Wl_graph_7 rfl rfl ?_
      refine mw_if_ltN C 17 d_Wl_graph_8 (by decide) (by omega) ?_
      refine mw_iload_n C 2 d_Wl_graph_11 rfl rfl ?_
      refine mw_bipush C (v := nI 48) d_Wl_graph_12 (by decide) ?_
      refine mw_icmp_ltN C 19 d_Wl_graph_14 (by decide) (by omega) (by omega) (fun h14 => ?_) (fun h14 => ?_)
      ·
        have hi4 : node = 0 ∨ node = 1 ∨ node = 2 ∨ node = 3 := by omega
        rcases hi4 with rfl | rfl | rfl | rfl
        ·
          refine mw_aload_n C 0 d_Wl_graph_19 rfl rfl ?_
          refine mw_getr C f_Wl_38 d_Wl_graph_20 (by decide) rfl rfl ?_
          refine mw_iload_n C 1 d_Wl_graph_23 rfl rfl ?_
          refine mw_aaldN C d_Wl_graph_24 (by decide) rfl (by omega) (by decide) rfl ?_
          refine mw_getr C f_Wl_174 d_Wl_graph_25 (by decide) rfl rfl ?_
          refine mw_astore_n C 3 d_Wl_graph_28 rfl (by decide) ?_
          refine mw_aload_n C 3 d_Wl_graph_29 rfl rfl ?_
          refine mw_iload_n C 2 d_Wl_graph_30 rfl rfl ?_
          refine mw_run0i C ix_Gr0_Wl (mw_invV C (kk := 0) (m_Gr_has l D cA q (by omega) _) ix_Gr0_Wl kb_Wl_193 wm_Gr_has wv_Gr_has (by decide) rfl rfl d_Wl_graph_31 rfl rfl (Nat.le_of_ble_eq_true rfl) rfl rfl ⟨by decide, by decide⟩ ⟨Nat.zero_le _, Nat.zero_le _⟩) (fun x31 e31 => ?_)
          subst e31
          have e9 : lb (S.2 10 4) q = !decide (σ.1 9 (48 * 0 + q) = 0) := by rw [show S.2 10 4 = _ from h.2.2.2.2.1.ad, lb_set hq]
          by_cases h9 : σ.1 9 (48 * 0 + q) = 0
          ·
            refine mw_eqi (show _ = nI 0 from by show nI (lb (S.2 10 4) q).toNat = _; rw [e9, decide_eq_true h9]; rfl) ?_
            refine mw_if_eqN C 46 d_Wl_graph_34 (by decide) (by omega) (fun h34 => ?_) (fun h34 => ?_)
            ·
              refine mw_aload_n C 3 d_Wl_graph_46 rfl rfl ?_
              refine mw_getr C f_Wl_194 d_Wl_graph_47 (by decide) rfl rfl ?_
              refine mw_iload_n C 2 d_Wl_graph_50 rfl rfl ?_
              refine mw_ialdN C d_Wl_graph_51 (by decide) rfl (by omega) (by decide) ?_
              refine mw_eqi (h.2.2.2.2.1.ac q hq) ?_
              refine mw_ineg C d_Wl_graph_52 ?_
              refine mw_iret C hR d_Wl_graph_53 ?_
              rw [if_pos h9]
            · exfalso; omega
          ·
            refine mw_eqi (show _ = nI 1 from by show nI (lb (S.2 10 4) q).toNat = _; rw [e9, decide_eq_false h9]; rfl) ?_
            refine mw_if_eqN C 46 d_Wl_graph_34 (by decide) (by omega) (fun h34 => ?_) (fun h34 => ?_)
            · exfalso; omega
            ·
              refine mw_aload_n C 3 d_Wl_graph_37 rfl rfl ?_
              refine mw_getr C f_Wl_194 d_Wl_graph_38 (by decide) rfl rfl ?_
              refine mw_iload_n C 2 d_Wl_graph_41 rfl rfl ?_
              refine mw_ialdN C d_Wl_graph_42 (by decide) rfl (by omega) (by decide) ?_
              refine mw_eqi (h.2.2.2.2.1.ac q hq) ?_
              refine mw_goto C 53 d_Wl_graph_43 (by decide) ?_
              refine mw_iret C hR d_Wl_graph_53 ?_
              rw [if_neg h9]
        ·
          refine mw_aload_n C 0 d_Wl_graph_19 rfl rfl ?_
          refine mw_getr C f_Wl_38 d_Wl_graph_20 (by decide) rfl rfl ?_
          refine mw_iload_n C 1 d_Wl_graph_23 rfl rfl ?_
          refine mw_aaldN C d_Wl_graph_24 (by decide) rfl (by omega) (by decide) rfl ?_
          refine mw_getr C f_Wl_174 d_Wl_graph_25 (by decide) rfl rfl ?_
          refine mw_astore_n C 3 d_Wl_graph_28 rfl (by decide) ?_
          refine mw_aload_n C 3 d_Wl_graph_29 rfl rfl ?_
          refine mw_iload_n C 2 d_Wl_graph_30 rfl rfl ?_
          refine mw_run0i C ix_Gr1_Wl (mw_invV C (kk := 0) (m_Gr_has l D cA q (by omega) _) ix_Gr1_Wl kb_Wl_193 wm_Gr_has wv_Gr_has (by decide) rfl rfl d_Wl_graph_31 rfl rfl (Nat.le_of_ble_eq_true rfl) rfl rfl ⟨by decide, by decide⟩ ⟨Nat.zero_le _, Nat.zero_le _⟩) (fun x31 e31 => ?_)
          subst e31
          have e9 : lb (S.2 25 4) q = !decide (σ.1 9 (48 * 1 + q) = 0) := by rw [show S.2 25 4 = _ from h.2.2.2.2.2.1.ad, lb_set hq]
          by_cases h9 : σ.1 9 (48 * 1 + q) = 0
          ·
            refine mw_eqi (show _ = nI 0 from by show nI (lb (S.2 25 4) q).toNat = _; rw [e9, decide_eq_true h9]; rfl) ?_
            refine mw_if_eqN C 46 d_Wl_graph_34 (by decide) (by omega) (fun h34 => ?_) (fun h34 => ?_)
            ·
              refine mw_aload_n C 3 d_Wl_graph_46 rfl rfl ?_
              refine mw_getr C f_Wl_194 d_Wl_graph_47 (by decide) rfl rfl ?_
              refine mw_iload_n C 2 d_Wl_graph_50 rfl rfl ?_
              refine mw_ialdN C d_Wl_graph_51 (by decide) rfl (by omega) (by decide) ?_
              refine mw_eqi (h.2.2.2.2.2.1.ac q hq) ?_
              refine mw_ineg C d_Wl_graph_52 ?_
              refine mw_iret C hR d_Wl_graph_53 ?_
              rw [if_pos h9]
            · exfalso; omega
          ·
            refine mw_eqi (show _ = nI 1 from by show nI (lb (S.2 25 4) q).toNat = _; rw [e9, decide_eq_false h9]; rfl) ?_
            refine mw_if_eqN C 46 d_Wl_graph_34 (by decide) (by omega) (fun h34 => ?_) (fun h34 => ?_)
            · exfalso; omega
            ·
              refine mw_aload_n C 3 d_Wl_graph_37 rfl rfl ?_
              refine mw_getr C f_Wl_194 d_Wl_graph_38 (by decide) rfl rfl ?_
              refine mw_iload_n C 2 d_Wl_graph_41 rfl rfl ?_
              refine mw_ialdN C d_Wl_graph_42 (by decide) rfl (by omega) (by decide) ?_
              refine mw_eqi (h.2.2.2.2.2.1.ac q hq) ?_
              refine mw_goto C 53 d_Wl_graph_43 (by decide) ?_
              refine mw_iret C hR d_Wl_graph_53 ?_
              rw [if_neg h9]
        ·
          refine mw_aload_n C 0 d_Wl_graph_19 rfl rfl ?_
          refine mw_getr C f_Wl_38 d_Wl_graph_20 (by decide) rfl rfl ?_
          refine mw_iload_n C 1 d_Wl_graph_23 rfl rfl ?_
          refine mw_aaldN C d_Wl_graph_24 (by decide) rfl (by omega) (by decide) rfl ?_
          refine mw_getr C f_Wl_174 d_Wl_graph_25 (by decide) rfl rfl ?_
          refine mw_astore_n C 3 d_Wl_graph_28 rfl (by decide) ?_
          refine mw_aload_n C 3 d_Wl_graph_29 rfl rfl ?_
          refine mw_iload_n C 2 d_Wl_graph_30 rfl rfl ?_
          refine mw_run0i C ix_Gr2_Wl (mw_invV C (kk := 0) (m_Gr_has l D cA q (by omega) _) ix_Gr2_Wl kb_Wl_193 wm_Gr_has wv_Gr_has (by decide) rfl rfl d_Wl_graph_31 rfl rfl (Nat.le_of_ble_eq_true rfl) rfl rfl ⟨by decide, by decide⟩ ⟨Nat.zero_le _, Nat.zero_le _⟩) (fun x31 e31 => ?_)
          subst e31
          have e9 : lb (S.2 40 4) q = !decide (σ.1 9 (48 * 2 + q) = 0) := by rw [show S.2 40 4 = _ from h.2.2.2.2.2.2.1.ad, lb_set hq]
          by_cases h9 : σ.1 9 (48 * 2 + q) = 0
          ·
            refine mw_eqi (show _ = nI 0 from by show nI (lb (S.2 40 4) q).toNat = _; rw [e9, decide_eq_true h9]; rfl) ?_
            refine mw_if_eqN C 46 d_Wl_graph_34 (by decide) (by omega) (fun h34 => ?_) (fun h34 => ?_)
            ·
              refine mw_aload_n C 3 d_Wl_graph_46 rfl rfl ?_
              refine mw_getr C f_Wl_194 d_Wl_graph_47 (by decide) rfl rfl ?_
              refine mw_iload_n C 2 d_Wl_graph_50 rfl rfl ?_
              refine mw_ialdN C d_Wl_graph_51 (by decide) rfl (by omega) (by decide) ?_
              refine mw_eqi (h.2.2.2.2.2.2.1.ac q hq) ?_
              refine mw_ineg C d_Wl_graph_52 ?_
              refine mw_iret C hR d_Wl_graph_53 ?_
              rw [if_pos h9]
            · exfalso; omega
          ·
            refine mw_eqi (show _ = nI 1 from by show nI (lb (S.2 40 4) q).toNat = _; rw [e9, decide_eq_false h9]; rfl) ?_
            refine mw_if_eqN C 46 d_Wl_graph_34 (by decide) (by omega) (fun h34 => ?_) (fun h34 => ?_)
            · exfalso; omega
            ·
              refine mw_aload_n C 3 d_Wl_graph_37 rfl rfl ?_
              refine mw_getr C f_Wl_194 d_Wl_graph_38 (by decide) rfl rfl ?_
              refine mw_iload_n C 2 d_Wl_graph_41 rfl rfl ?_
              refine mw_ialdN C d_Wl_graph_42 (by decide) rfl (by omega) (by decide) ?_
              refine mw_eqi (h.2.2.2.2.2.2.1.ac q hq) ?_
              refine mw_goto C 53 d_Wl_graph_43 (by decide) ?_
              refine mw_iret C hR d_Wl_graph_53 ?_
              rw [if_neg h9]
        ·
          refine mw_aload_n C 0 d_Wl_graph_19 rfl rfl ?_
          refine mw_getr C f_Wl_38 d_Wl_graph_20 (by decide) rfl rfl ?_
          refine mw_iload_n C 1 d_Wl_graph_23 rfl rfl ?_
          refine mw_aaldN C d_Wl_graph_24 (by decide) rfl (by omega) (by decide) rfl ?_
          refine mw_getr C f_Wl_174 d_Wl_graph_25 (by decide) rfl rfl ?_
          refine mw_astore_n C 3 d_Wl_graph_28 rfl (by decide) ?_
          refine mw_aload_n C 3 d_Wl_graph_29 rfl rfl ?_
          refine mw_iload_n C 2 d_Wl_graph_30 rfl rfl ?_
          refine mw_run0i C ix_Gr3_Wl (mw_invV C (kk := 0) (m_Gr_has l D cA q (by omega) _) ix_Gr3_Wl kb_Wl_193 wm_Gr_has wv_Gr_has (by decide) rfl rfl d_Wl_graph_31 rfl rfl (Nat.le_of_ble_eq_true rfl) rfl rfl ⟨by decide, by decide⟩ ⟨Nat.zero_le _, Nat.zero_le _⟩) (fun x31 e31 => ?_)
          subst e31
          have e9 : lb (S.2 55 4) q = !decide (σ.1 9 (48 * 3 + q) = 0) := by rw [show S.2 55 4 = _ from h.2.2.2.2.2.2.2.ad, lb_set hq]
          by_cases h9 : σ.1 9 (48 * 3 + q) = 0
          ·
            refine mw_eqi (show _ = nI 0 from by show nI (lb (S.2 55 4) q).toNat = _; rw [e9, decide_eq_true h9]; rfl) ?_
            refine mw_if_eqN C 46 d_Wl_graph_34 (by decide) (by omega) (fun h34 => ?_) (fun h34 => ?_)
            ·
              refine mw_aload_n C 3 d_Wl_graph_46 rfl rfl ?_
              refine mw_getr C f_Wl_194 d_Wl_graph_47 (by decide) rfl rfl ?_
              refine mw_iload_n C 2 d_Wl_graph_50 rfl rfl ?_
              refine mw_ialdN C d_Wl_graph_51 (by decide) rfl (by omega) (by decide) ?_
              refine mw_eqi (h.2.2.2.2.2.2.2.ac q hq) ?_
              refine mw_ineg C d_Wl_graph_52 ?_
              refine mw_iret C hR d_Wl_graph_53 ?_
              rw [if_pos h9]
            · exfalso; omega
          ·
            refine mw_eqi (show _ = nI 1 from by show nI (lb (S.2 55 4) q).toNat = _; rw [e9, decide_eq_false h9]; rfl) ?_
            refine mw_if_eqN C 46 d_Wl_graph_34 (by decide) (by omega) (fun h34 => ?_) (fun h34 => ?_)
            · exfalso; omega
            ·
              refine mw_aload_n C 3 d_Wl_graph_37 rfl rfl ?_
              refine mw_getr C f_Wl_194 d_Wl_graph_38 (by decide) rfl rfl ?_
              refine mw_iload_n C 2 d_Wl_graph_41 rfl rfl ?_
              refine mw_ialdN C d_Wl_graph_42 (by decide) rfl (by omega) (by decide) ?_
              refine mw_eqi (h.2.2.2.2.2.2.2.ac q hq) ?_
              refine mw_goto C 53 d_Wl_graph_43 (by decide) ?_
              refine mw_iret C hR d_Wl_graph_53 ?_
              rw [if_neg h9]
      · exfalso; omega
  · exact absurd ⟨node, hn, rfl⟩ hk
set_option maxHeartbeats 4000000 in
set_option maxRecDepth 100000 in
theorem m_Wl_ordered_1 (l : Launch) (D : va_G) (cA : Nat → ClassId) (cn : Int32) (σ : aS) (fy : Nat) (x1 x2 : Int32) (S : mw_S) (h : cR cn fy σ S) (hoc : ∀ n, n < 4 → σ.1 17 n ≤ 48) (hno : ¬ ∃ n k, n < 4 ∧ k < σ.1 17 n ∧ x1 = nI n ∧ x2 = nI k) : mw_M false l lw_tbl y_Wl_ordered b_Wl_ordered 3 (some .int) { frames := 1, cells := 0, slots := 0, locals := 20 } D vCl cA sh_Wl 69 [.inr (.inr 0), .inl x1, .inl x2] (S) (mw_Pi (fun z _ => z = -1)) := by
  refine mw_M_of (by decide) (Nat.le_of_ble_eq_true rfl) ?_
  intro p e s m args below meth c A ad C hR
  refine mw_iload_n C 1 d_Wl_ordered_0 rfl rfl ?_
  refine mw_run0i C (ix0 _ _) (mw_invS C (m_Wl_isNode l D cA x1 _) (ix0 _ _) kb_Wl_9 ws_Wl_isNode d_Wl_ordered_1 rfl rfl (Nat.le_of_ble_eq_true rfl) rfl rfl ⟨by decide, by decide⟩ ⟨Nat.zero_le _, Nat.zero_le _⟩) (fun x1 e1 => ?_)
  rcases e1 with ⟨rfl, n, hn, rfl⟩ | ⟨rfl, hk⟩
  ·
    have hocn := hoc n hn
    refine mw_if_eqN C 27 d_Wl_ordered_4 (by decide) (by omega) (fun h4 => ?_) (fun h4 => ?_)
    · exfalso; omega
    ·
      refine mw_iload_n C 2 d_Wl_ordered_7 rfl rfl ?_
      refine mw_if_lt C 27 d_Wl_ordered_8 (by decide) (fun h8 => ?_) (fun h8 => ?_)
      ·
        refine mw_iconst C (v := (-1)) d_Wl_ordered_27 (by decide) ?_
        refine mw_iret C hR d_Wl_ordered_28 ?_
        rfl
      ·
        have hi4 : n = 0 ∨ n = 1 ∨ n = 2 ∨ n = 3 := by omega
        rcases hi4 with rfl | rfl | rfl | rfl
        ·
          refine mw_iload_n C 2 d_Wl_ordered_11 rfl rfl ?_
          refine mw_aload_n C 0 d_Wl_ordered_12 rfl rfl ?_
          refine mw_getr C f_Wl_38 d_Wl_ordered_13 (by decide) rfl rfl ?_
          refine mw_iload_n C 1 d_Wl_ordered_16 rfl rfl ?_
          refine mw_aaldN C d_Wl_ordered_17 (by decide) rfl (by omega) (by decide) rfl ?_
          refine mw_getr C f_Wl_167 d_Wl_ordered_18 (by decide) rfl rfl ?_
          refine mw_geti C f_Wl_171 d_Wl_ordered_21 (by decide) rfl rfl ?_
          refine mw_eqi (h.2.2.2.2.1.oc) ?_
          refine mw_icmp_lt C 29 d_Wl_ordered_24 (by decide) (fun h24 => ?_) (fun h24 => ?_)
          ·
            obtain ⟨k, hk3, e⟩ := wLt_of (by omega) h8 h24
            exact absurd ⟨0, k, hn, hk3, rfl, e⟩ hno
          ·
            refine mw_iconst C (v := (-1)) d_Wl_ordered_27 (by decide) ?_
            refine mw_iret C hR d_Wl_ordered_28 ?_
            rfl
        ·
          refine mw_iload_n C 2 d_Wl_ordered_11 rfl rfl ?_
          refine mw_aload_n C 0 d_Wl_ordered_12 rfl rfl ?_
          refine mw_getr C f_Wl_38 d_Wl_ordered_13 (by decide) rfl rfl ?_
          refine mw_iload_n C 1 d_Wl_ordered_16 rfl rfl ?_
          refine mw_aaldN C d_Wl_ordered_17 (by decide) rfl (by omega) (by decide) rfl ?_
          refine mw_getr C f_Wl_167 d_Wl_ordered_18 (by decide) rfl rfl ?_
          refine mw_geti C f_Wl_171 d_Wl_ordered_21 (by decide) rfl rfl ?_
          refine mw_eqi (h.2.2.2.2.2.1.oc) ?_
          refine mw_icmp_lt C 29 d_Wl_ordered_24 (by decide) (fun h24 => ?_) (fun h24 => ?_)
          ·
            obtain ⟨k, hk3, e⟩ := wLt_of (by omega) h8 h24
            exact absurd ⟨1, k, hn, hk3, rfl, e⟩ hno
          ·
            refine mw_iconst C (v := (-1)) d_Wl_ordered_27 (by decide) ?_
            refine mw_iret C hR d_Wl_ordered_28 ?_
            rfl
        ·
          refine mw_iload_n C 2 d_Wl_ordered_11 rfl rfl ?_
          refine mw_aload_n C 0 d_Wl_ordered_12 rfl rfl ?_
          refine mw_getr C f_Wl_38 d_Wl_ordered_13 (by decide) rfl rfl ?_
          refine mw_iload_n C 1 d_Wl_ordered_16 rfl rfl ?_
          refine mw_aaldN C d_Wl_ordered_17 (by decide) rfl (by omega) (by decide) rfl ?_
          refine mw_getr C f_Wl_167 d_Wl_ordered_18 (by decide) rfl rfl ?_
          refine mw_geti C f_Wl_171 d_Wl_ordered_21 (by decide) rfl rfl ?_
          refine mw_eqi (h.2.2.2.2.2.2.1.oc) ?_
          refine mw_icmp_lt C 29 d_Wl_ordered_24 (by decide) (fun h24 => ?_) (fun h24 => ?_)
          ·
            obtain ⟨k, hk3, e⟩ := wLt_of (by omega) h8 h24
            exact absurd ⟨2, k, hn, hk3, rfl, e⟩ hno
          ·
            refine mw_iconst C (v := (-1)) d_Wl_ordered_27 (by decide) ?_
            refine mw_iret C hR d_Wl_ordered_28 ?_
            rfl
        ·
          refine mw_iload_n C 2 d_Wl_ordered_11 rfl rfl ?_
          refine mw_aload_n C 0 d_Wl_ordered_12 rfl rfl ?_
          refine mw_getr C f_Wl_38 d_Wl_ordered_13 (by decide) rfl rfl ?_
          refine mw_iload_n C 1 d_Wl_ordered_16 rfl rfl ?_
          refine mw_aaldN C d_Wl_ordered_17 (by decide) rfl (by omega) (by decide) rfl ?_
          refine mw_getr C f_Wl_167 d_Wl_ordered_18 (by decide) rfl rfl ?_
          refine mw_geti C f_Wl_171 d_Wl_ordered_21 (by decide) rfl rfl ?_
          refine mw_eqi (h.2.2.2.2.2.2.2.oc) ?_
          refine mw_icmp_lt C 29 d_Wl_ordered_24 (by decide) (fun h24 => ?_) (fun h24 => ?_)
          ·
            obtain ⟨k, hk3, e⟩ := wLt_of (by omega) h8 h24
            exact absurd ⟨3, k, hn, hk3, rfl, e⟩ hno
          ·
            refine mw_iconst C (v := (-1)) d_Wl_ordered_27 (by decide) ?_
            refine mw_iret C hR d_Wl_ordered_28 ?_
            rfl
  ·
    refine mw_if_eqN C 27 d_Wl_ordered_4 (by decide) (by omega) (fun h4 => ?_) (fun h4 => ?_)
    ·
      refine mw_iconst C (v := (-1)) d_Wl_ordered_27 (by decide) ?_
      refine mw_iret C hR d_Wl_ordered_28 ?_
      rfl
    · exfalso; omega
set_option maxHeartbeats 4000000 in
set_option maxRecDepth 100000 in
theorem m_Wl_ordered_0 (l : Launch) (D : va_G) (cA : Nat → ClassId) (cn : Int32) (σ : aS) (fy n k : Nat) (S : mw_S) (h : cR cn fy σ S) (hn : n < 4) (hk : k < σ.1 17 n) (hoc : σ.1 17 n ≤ 48) : mw_M false l lw_tbl y_Wl_ordered b_Wl_ordered 3 (some .int) { frames := 1, cells := 0, slots := 0, locals := 20 } D vCl cA sh_Wl 69 [.inr (.inr 0), .inl (nI n), .inl (nI k)] (S) (mw_Pi (fun z _ => z = nI (σ.1 11 (48 * n + k)))) := by
  refine mw_M_of (by decide) (Nat.le_of_ble_eq_true rfl) ?_
  intro p e s m args below meth c A ad C hR
  refine mw_iload_n C 1 d_Wl_ordered_0 rfl rfl ?_
  refine mw_run0i C (ix0 _ _) (mw_invS C (m_Wl_isNode l D cA (nI n) _) (ix0 _ _) kb_Wl_9 ws_Wl_isNode d_Wl_ordered_1 rfl rfl (Nat.le_of_ble_eq_true rfl) rfl rfl ⟨by decide, by decide⟩ ⟨Nat.zero_le _, Nat.zero_le _⟩) (fun x1 e1 => ?_)
  rcases e1 with ⟨rfl, hk2⟩ | ⟨rfl, hk2⟩
  ·
    refine mw_if_eqN C 27 d_Wl_ordered_4 (by decide) (by omega) (fun h4 => ?_) (fun h4 => ?_)
    · exfalso; omega
    ·
      refine mw_iload_n C 2 d_Wl_ordered_7 rfl rfl ?_
      refine mw_if_ltN C 27 d_Wl_ordered_8 (by decide) (by omega) ?_
      have hi4 : n = 0 ∨ n = 1 ∨ n = 2 ∨ n = 3 := by omega
      rcases hi4 with rfl | rfl | rfl | rfl
      ·
        refine mw_iload_n C 2 d_Wl_ordered_11 rfl rfl ?_
        refine mw_aload_n C 0 d_Wl_ordered_12 rfl rfl ?_
        refine mw_getr C f_Wl_38 d_Wl_ordered_13 (by decide) rfl rfl ?_
        refine mw_iload_n C 1 d_Wl_ordered_16 rfl rfl ?_
        refine mw_aaldN C d_Wl_ordered_17 (by decide) rfl (by omega) (by decide) rfl ?_
        refine mw_getr C f_Wl_167 d_Wl_ordered_18 (by decide) rfl rfl ?_
        refine mw_geti C f_Wl_171 d_Wl_ordered_21 (by decide) rfl rfl ?_
        refine mw_eqi (h.2.2.2.2.1.oc) ?_
        refine mw_icmp_ltN C 29 d_Wl_ordered_24 (by decide) (by omega) (by omega) (fun h24 => ?_) (fun h24 => ?_)
        ·
          refine mw_aload_n C 0 d_Wl_ordered_29 rfl rfl ?_
          refine mw_getr C f_Wl_38 d_Wl_ordered_30 (by decide) rfl rfl ?_
          refine mw_iload_n C 1 d_Wl_ordered_33 rfl rfl ?_
          refine mw_aaldN C d_Wl_ordered_34 (by decide) rfl (by omega) (by decide) rfl ?_
          refine mw_getr C f_Wl_167 d_Wl_ordered_35 (by decide) rfl rfl ?_
          refine mw_getr C f_Wl_197 d_Wl_ordered_38 (by decide) rfl rfl ?_
          refine mw_iload_n C 2 d_Wl_ordered_41 rfl rfl ?_
          refine mw_ialdN C d_Wl_ordered_42 (by decide) rfl (by omega) (by decide) ?_
          refine mw_iret C hR d_Wl_ordered_43 ?_
          exact h.2.2.2.2.1.od k hk
        · exfalso; omega
      ·
        refine mw_iload_n C 2 d_Wl_ordered_11 rfl rfl ?_
        refine mw_aload_n C 0 d_Wl_ordered_12 rfl rfl ?_
        refine mw_getr C f_Wl_38 d_Wl_ordered_13 (by decide) rfl rfl ?_
        refine mw_iload_n C 1 d_Wl_ordered_16 rfl rfl ?_
        refine mw_aaldN C d_Wl_ordered_17 (by decide) rfl (by omega) (by decide) rfl ?_
        refine mw_getr C f_Wl_167 d_Wl_ordered_18 (by decide) rfl rfl ?_
        refine mw_geti C f_Wl_171 d_Wl_ordered_21 (by decide) rfl rfl ?_
        refine mw_eqi (h.2.2.2.2.2.1.oc) ?_
        refine mw_icmp_ltN C 29 d_Wl_ordered_24 (by decide) (by omega) (by omega) (fun h24 => ?_) (fun h24 => ?_)
        ·
          refine mw_aload_n C 0 d_Wl_ordered_29 rfl rfl ?_
          refine mw_getr C f_Wl_38 d_Wl_ordered_30 (by decide) rfl rfl ?_
          refine mw_iload_n C 1 d_Wl_ordered_33 rfl rfl ?_
          refine mw_aaldN C d_Wl_ordered_34 (by decide) rfl (by omega) (by decide) rfl ?_
          refine mw_getr C f_Wl_167 d_Wl_ordered_35 (by decide) rfl rfl ?_
          refine mw_getr C f_Wl_197 d_Wl_ordered_38 (by decide) rfl rfl ?_
          refine mw_iload_n C 2 d_Wl_ordered_41 rfl rfl ?_
          refine mw_ialdN C d_Wl_ordered_42 (by decide) rfl (by omega) (by decide) ?_
          refine mw_iret C hR d_Wl_ordered_43 ?_
          exact h.2.2.2.2.2.1.od k hk
        · exfalso; omega
      ·
        refine mw_iload_n C 2 d_Wl_ordered_11 rfl rfl ?_
        refine mw_aload_n C 0 d_Wl_ordered_12 rfl rfl ?_
        refine mw_getr C f_Wl_38 d_Wl_ordered_13 (by decide) rfl rfl ?_
        refine mw_iload_n C 1 d_Wl_ordered_16 rfl rfl ?_
        refine mw_aaldN C d_Wl_ordered_17 (by decide) rfl (by omega) (by decide) rfl ?_
        refine mw_getr C f_Wl_167 d_Wl_ordered_18 (by decide) rfl rfl ?_
        refine mw_geti C f_Wl_171 d_Wl_ordered_21 (by decide) rfl rfl ?_
        refine mw_eqi (h.2.2.2.2.2.2.1.oc) ?_
        refine mw_icmp_ltN C 29 d_Wl_ordered_24 (by decide) (by omega) (by omega) (fun h24 => ?_) (fun h24 => ?_)
        ·
          refine mw_aload_n C 0 d_Wl_ordered_29 rfl rfl ?_
          refine mw_getr C f_Wl_38 d_Wl_ordered_30 (by decide) rfl rfl ?_
          refine mw_iload_n C 1 d_Wl_ordered_33 rfl rfl ?_
          refine mw_aaldN C d_Wl_ordered_34 (by decide) rfl (by omega) (by decide) rfl ?_
          refine mw_getr C f_Wl_167 d_Wl_ordered_35 (by decide) rfl rfl ?_
          refine mw_getr C f_Wl_197 d_Wl_ordered_38 (by decide) rfl rfl ?_
          refine mw_iload_n C 2 d_Wl_ordered_41 rfl rfl ?_
          refine mw_ialdN C d_Wl_ordered_42 (by decide) rfl (by omega) (by decide) ?_
          refine mw_iret C hR d_Wl_ordered_43 ?_
          exact h.2.2.2.2.2.2.1.od k hk
        · exfalso; omega
      ·
        refine mw_iload_n C 2 d_Wl_ordered_11 rfl rfl ?_
        refine mw_aload_n C 0 d_Wl_ordered_12 rfl rfl ?_
        refine mw_getr C f_Wl_38 d_Wl_ordered_13 (by decide) rfl rfl ?_
        refine mw_iload_n C 1 d_Wl_ordered_16 rfl rfl ?_
        refine mw_aaldN C d_Wl_ordered_17 (by decide) rfl (by omega) (by decide) rfl ?_
        refine mw_getr C f_Wl_167 d_Wl_ordered_18 (by decide) rfl rfl ?_
        refine mw_geti C f_Wl_171 d_Wl_ordered_21 (by decide) rfl rfl ?_
        refine mw_eqi (h.2.2.2.2.2.2.2.oc) ?_
        refine mw_icmp_ltN C 29 d_Wl_ordered_24 (by decide) (by omega) (by omega) (fun h24 => ?_) (fun h24 => ?_)
        ·
          refine mw_aload_n C 0 d_Wl_ordered_29 rfl rfl ?_
          refine mw_getr C f_Wl_38 d_Wl_ordered_30 (by decide) rfl rfl ?_
          refine mw_iload_n C 1 d_Wl_ordered_33 rfl rfl ?_
          refine mw_aaldN C d_Wl_ordered_34 (by decide) rfl (by omega) (by decide) rfl ?_
          refine mw_getr C f_Wl_167 d_Wl_ordered_35 (by decide) rfl rfl ?_
          refine mw_getr C f_Wl_197 d_Wl_ordered_38 (by decide) rfl rfl ?_
          refine mw_iload_n C 2 d_Wl_ordered_41 rfl rfl ?_
          refine mw_ialdN C d_Wl_ordered_42 (by decide) rfl (by omega) (by decide) ?_
          refine mw_iret C hR d_Wl_ordered_43 ?_
          exact h.2.2.2.2.2.2.2.od k hk
        · exfalso; omega
  · exact absurd ⟨n, hn, rfl⟩ hk2
