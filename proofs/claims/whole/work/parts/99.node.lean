/-! node is read of the ledger -/
set_option maxHeartbeats 4000000 in
set_option maxRecDepth 100000 in
theorem m_Wl_node_1 (l : Launch) (D : va_G) (cA : Nat → ClassId) (x1 x2 : Int32) (S : mw_S) (hno : ¬ (wIsN x1 ∧ wIn 0 7 x2)) : mw_M false l lw_tbl y_Wl_node b_Wl_node 4 (some .int) { frames := 1, cells := 0, slots := 0, locals := 21 } D vCl cA sh_Wl 69 [.inr (.inr 0), .inl x1, .inl x2] (S) (mw_Pi (fun z _ => z = -1)) := by
  refine mw_M_of (by decide) (Nat.le_of_ble_eq_true rfl) ?_
  intro p e s m args below meth c A ad C hR
  refine mw_iload_n C 1 d_Wl_node_0 rfl rfl ?_
  refine mw_run0i C (ix0 _ _) (mw_invS C (m_Wl_isNode l D cA x1 _) (ix0 _ _) kb_Wl_9 ws_Wl_isNode d_Wl_node_1 rfl rfl (Nat.le_of_ble_eq_true rfl) rfl rfl ⟨by decide, by decide⟩ ⟨Nat.zero_le _, Nat.zero_le _⟩) (fun x1 e1 => ?_)
  rcases e1 with ⟨rfl, hk⟩ | ⟨rfl, hk⟩
  ·
    refine mw_if_eqN C 17 d_Wl_node_4 (by decide) (by omega) (fun h4 => ?_) (fun h4 => ?_)
    · exfalso; omega
    ·
      refine mw_iload_n C 2 d_Wl_node_7 rfl rfl ?_
      refine mw_if_lt C 17 d_Wl_node_8 (by decide) (fun h8 => ?_) (fun h8 => ?_)
      ·
        refine mw_iconst C (v := (-1)) d_Wl_node_17 (by decide) ?_
        refine mw_iret C hR d_Wl_node_18 ?_
        rfl
      ·
        refine mw_iload_n C 2 d_Wl_node_11 rfl rfl ?_
        refine mw_bipush C (v := nI 8) d_Wl_node_12 (by decide) ?_
        refine mw_icmp_lt C 19 d_Wl_node_14 (by decide) (fun h14 => ?_) (fun h14 => ?_)
        ·
          obtain ⟨k, hk3, rfl⟩ := wLt_of (by decide) h8 h14
          exact absurd ⟨hk, ⟨k, Nat.zero_le _, by omega, rfl⟩⟩ hno
        ·
          refine mw_iconst C (v := (-1)) d_Wl_node_17 (by decide) ?_
          refine mw_iret C hR d_Wl_node_18 ?_
          rfl
  ·
    refine mw_if_eqN C 17 d_Wl_node_4 (by decide) (by omega) (fun h4 => ?_) (fun h4 => ?_)
    ·
      refine mw_iconst C (v := (-1)) d_Wl_node_17 (by decide) ?_
      refine mw_iret C hR d_Wl_node_18 ?_
      rfl
    · exfalso; omega
set_option maxHeartbeats 4000000 in
set_option maxRecDepth 100000 in
theorem m_Wl_node_0 (l : Launch) (D : va_G) (cA : Nat → ClassId) (cn : Int32) (σ : aS) (fy node j : Nat) (S : mw_S) (h : cR cn fy σ S) (hn : node < 4) (hj : j ≤ 7) : mw_M false l lw_tbl y_Wl_node b_Wl_node 4 (some .int) { frames := 1, cells := 0, slots := 0, locals := 21 } D vCl cA sh_Wl 69 [.inr (.inr 0), .inl (nI node), .inl (nI j)] (S) (mw_Pi (fun z _ => z = nI (if node = fy then 0 else a_node σ node j))) := by
  refine mw_M_of (by decide) (Nat.le_of_ble_eq_true rfl) ?_
  intro p e s m args below meth c A ad C hR
  refine mw_iload_n C 1 d_Wl_node_0 rfl rfl ?_
  refine mw_run0i C (ix0 _ _) (mw_invS C (m_Wl_isNode l D cA (nI node) _) (ix0 _ _) kb_Wl_9 ws_Wl_isNode d_Wl_node_1 rfl rfl (Nat.le_of_ble_eq_true rfl) rfl rfl ⟨by decide, by decide⟩ ⟨Nat.zero_le _, Nat.zero_le _⟩) (fun x1 e1 => ?_)
  rcases e1 with ⟨rfl, hk⟩ | ⟨rfl, hk⟩
  ·
    refine mw_if_eqN C 17 d_Wl_node_4 (by decide) (by omega) (fun h4 => ?_) (fun h4 => ?_)
    · exfalso; omega
    ·
      refine mw_iload_n C 2 d_Wl_node_7 rfl rfl ?_
      refine mw_if_ltN C 17 d_Wl_node_8 (by decide) (by omega) ?_
      refine mw_iload_n C 2 d_Wl_node_11 rfl rfl ?_
      refine mw_bipush C (v := nI 8) d_Wl_node_12 (by decide) ?_
      refine mw_icmp_ltN C 19 d_Wl_node_14 (by decide) (by omega) (by omega) (fun h14 => ?_) (fun h14 => ?_)
      ·
        refine mw_iload_n C 1 d_Wl_node_19 rfl rfl ?_
        refine mw_aload_n C 0 d_Wl_node_20 rfl rfl ?_
        refine mw_geti C f_Wl_26 d_Wl_node_21 (by decide) rfl rfl ?_
        refine mw_eqi h.1 ?_
        refine mw_icmp_ne C 29 d_Wl_node_24 (by decide) (fun h24 => ?_) (fun h24 => ?_)
        ·
          have hne : ¬ node = fy := fun e => h24 ((slv_eq hn).mpr e)
          have hi4 : node = 0 ∨ node = 1 ∨ node = 2 ∨ node = 3 := by omega
          rcases hi4 with rfl | rfl | rfl | rfl
          ·
            refine mw_aload_n C 0 d_Wl_node_29 rfl rfl ?_
            refine mw_getr C f_Wl_38 d_Wl_node_30 (by decide) rfl rfl ?_
            refine mw_iload_n C 1 d_Wl_node_33 rfl rfl ?_
            refine mw_aaldN C d_Wl_node_34 (by decide) rfl (by omega) (by decide) rfl ?_
            refine mw_astore_n C 3 d_Wl_node_35 rfl (by decide) ?_
            refine mw_iload_n C 2 d_Wl_node_36 rfl rfl ?_
            by_cases hj4 : 4 ≤ j
            ·
              refine mw_tableOut C 97 d_Wl_node_37 (Or.inr (by rw [nI_toInt (by omega)]; omega)) (by decide) ?_
              refine mw_aload_n C 3 d_Wl_node_97 rfl rfl ?_
              refine mw_getr C f_Wl_167 d_Wl_node_98 (by decide) rfl rfl ?_
              refine mw_getr C f_Wl_190 d_Wl_node_101 (by decide) rfl rfl ?_
              refine mw_iload_n C 2 d_Wl_node_104 rfl rfl ?_
              refine mw_iconst C (v := nI 4) d_Wl_node_105 (by decide) ?_
              refine mw_isubN C d_Wl_node_106 (by omega) ?_
              refine mw_ialdN C d_Wl_node_107 (by decide) rfl (by omega) (by decide) ?_
              refine mw_eqi (h.2.2.2.2.1.ba (j - 4) (by omega)) ?_
              refine mw_iret C hR d_Wl_node_108 ?_
              rw [if_neg hne, a_node, if_neg (by omega), if_neg (by omega), if_neg (by omega), if_neg (by omega)]
            ·
              have hj5 : j = 0 ∨ j = 1 ∨ j = 2 ∨ j = 3 := by omega
              rw [if_neg hne]
              rcases hj5 with rfl | rfl | rfl | rfl
              ·
                refine mw_tableIn C 68 d_Wl_node_37 (by decide) (by decide) (off := 31) (by decide) (by decide) ?_
                refine mw_aload_n C 3 d_Wl_node_68 rfl rfl ?_
                refine mw_geti C f_Wl_161 d_Wl_node_69 (by decide) rfl rfl ?_
                refine mw_iret C hR d_Wl_node_72 ?_
                exact h.2.2.2.2.1.ow
              ·
                refine mw_tableIn C 73 d_Wl_node_37 (by decide) (by decide) (off := 36) (by decide) (by decide) ?_
                refine mw_aload_n C 3 d_Wl_node_73 rfl rfl ?_
                refine mw_geti C f_Wl_164 d_Wl_node_74 (by decide) rfl rfl ?_
                refine mw_iret C hR d_Wl_node_77 ?_
                exact h.2.2.2.2.1.cm
              ·
                refine mw_tableIn C 78 d_Wl_node_37 (by decide) (by decide) (off := 41) (by decide) (by decide) ?_
                refine mw_aload_n C 3 d_Wl_node_78 rfl rfl ?_
                refine mw_getr C f_Wl_167 d_Wl_node_79 (by decide) rfl rfl ?_
                refine mw_geti C f_Wl_171 d_Wl_node_82 (by decide) rfl rfl ?_
                refine mw_iret C hR d_Wl_node_85 ?_
                exact h.2.2.2.2.1.oc
              ·
                refine mw_tableIn C 86 d_Wl_node_37 (by decide) (by decide) (off := 49) (by decide) (by decide) ?_
                refine mw_aload_n C 3 d_Wl_node_86 rfl rfl ?_
                refine mw_getr C f_Wl_174 d_Wl_node_87 (by decide) rfl rfl ?_
                refine mw_getl C f_Wl_178 d_Wl_node_90 (by decide) rfl rfl ?_
                refine mw_eql (h.2.2.2.2.1.ad) ?_
                refine mw_run0i C (ix0 _ _) (mw_invS C (m_Lo_bitCount l D cA _ _) (ix0 _ _) kb_Wl_184 ws_Lo_bitCount d_Wl_node_93 rfl rfl (Nat.le_of_ble_eq_true rfl) rfl rfl ⟨by decide, by decide⟩ ⟨Nat.zero_le _, Nat.zero_le _⟩) (fun x93 e93 => ?_)
                subst e93
                refine mw_iret C hR d_Wl_node_96 ?_
                exact size_eq σ 0
          ·
            refine mw_aload_n C 0 d_Wl_node_29 rfl rfl ?_
            refine mw_getr C f_Wl_38 d_Wl_node_30 (by decide) rfl rfl ?_
            refine mw_iload_n C 1 d_Wl_node_33 rfl rfl ?_
            refine mw_aaldN C d_Wl_node_34 (by decide) rfl (by omega) (by decide) rfl ?_
            refine mw_astore_n C 3 d_Wl_node_35 rfl (by decide) ?_
            refine mw_iload_n C 2 d_Wl_node_36 rfl rfl ?_
            by_cases hj4 : 4 ≤ j
            ·
              refine mw_tableOut C 97 d_Wl_node_37 (Or.inr (by rw [nI_toInt (by omega)]; omega)) (by decide) ?_
              refine mw_aload_n C 3 d_Wl_node_97 rfl rfl ?_
              refine mw_getr C f_Wl_167 d_Wl_node_98 (by decide) rfl rfl ?_
              refine mw_getr C f_Wl_190 d_Wl_node_101 (by decide) rfl rfl ?_
              refine mw_iload_n C 2 d_Wl_node_104 rfl rfl ?_
              refine mw_iconst C (v := nI 4) d_Wl_node_105 (by decide) ?_
              refine mw_isubN C d_Wl_node_106 (by omega) ?_
              refine mw_ialdN C d_Wl_node_107 (by decide) rfl (by omega) (by decide) ?_
              refine mw_eqi (h.2.2.2.2.2.1.ba (j - 4) (by omega)) ?_
              refine mw_iret C hR d_Wl_node_108 ?_
              rw [if_neg hne, a_node, if_neg (by omega), if_neg (by omega), if_neg (by omega), if_neg (by omega)]
            ·
              have hj5 : j = 0 ∨ j = 1 ∨ j = 2 ∨ j = 3 := by omega
              rw [if_neg hne]
              rcases hj5 with rfl | rfl | rfl | rfl
              ·
                refine mw_tableIn C 68 d_Wl_node_37 (by decide) (by decide) (off := 31) (by decide) (by decide) ?_
                refine mw_aload_n C 3 d_Wl_node_68 rfl rfl ?_
                refine mw_geti C f_Wl_161 d_Wl_node_69 (by decide) rfl rfl ?_
                refine mw_iret C hR d_Wl_node_72 ?_
                exact h.2.2.2.2.2.1.ow
              ·
                refine mw_tableIn C 73 d_Wl_node_37 (by decide) (by decide) (off := 36) (by decide) (by decide) ?_
                refine mw_aload_n C 3 d_Wl_node_73 rfl rfl ?_
                refine mw_geti C f_Wl_164 d_Wl_node_74 (by decide) rfl rfl ?_
                refine mw_iret C hR d_Wl_node_77 ?_
                exact h.2.2.2.2.2.1.cm
              ·
                refine mw_tableIn C 78 d_Wl_node_37 (by decide) (by decide) (off := 41) (by decide) (by decide) ?_
                refine mw_aload_n C 3 d_Wl_node_78 rfl rfl ?_
                refine mw_getr C f_Wl_167 d_Wl_node_79 (by decide) rfl rfl ?_
                refine mw_geti C f_Wl_171 d_Wl_node_82 (by decide) rfl rfl ?_
                refine mw_iret C hR d_Wl_node_85 ?_
                exact h.2.2.2.2.2.1.oc
              ·
                refine mw_tableIn C 86 d_Wl_node_37 (by decide) (by decide) (off := 49) (by decide) (by decide) ?_
                refine mw_aload_n C 3 d_Wl_node_86 rfl rfl ?_
                refine mw_getr C f_Wl_174 d_Wl_node_87 (by decide) rfl rfl ?_
                refine mw_getl C f_Wl_178 d_Wl_node_90 (by decide) rfl rfl ?_
                refine mw_eql (h.2.2.2.2.2.1.ad) ?_
                refine mw_run0i C (ix0 _ _) (mw_invS C (m_Lo_bitCount l D cA _ _) (ix0 _ _) kb_Wl_184 ws_Lo_bitCount d_Wl_node_93 rfl rfl (Nat.le_of_ble_eq_true rfl) rfl rfl ⟨by decide, by decide⟩ ⟨Nat.zero_le _, Nat.zero_le _⟩) (fun x93 e93 => ?_)
                subst e93
                refine mw_iret C hR d_Wl_node_96 ?_
                exact size_eq σ 1
          ·
            refine mw_aload_n C 0 d_Wl_node_29 rfl rfl ?_
            refine mw_getr C f_Wl_38 d_Wl_node_30 (by decide) rfl rfl ?_
            refine mw_iload_n C 1 d_Wl_node_33 rfl rfl ?_
            refine mw_aaldN C d_Wl_node_34 (by decide) rfl (by omega) (by decide) rfl ?_
            refine mw_astore_n C 3 d_Wl_node_35 rfl (by decide) ?_
            refine mw_iload_n C 2 d_Wl_node_36 rfl rfl ?_
            by_cases hj4 : 4 ≤ j
            ·
              refine mw_tableOut C 97 d_Wl_node_37 (Or.inr (by rw [nI_toInt (by omega)]; omega)) (by decide) ?_
              refine mw_aload_n C 3 d_Wl_node_97 rfl rfl ?_
              refine mw_getr C f_Wl_167 d_Wl_node_98 (by decide) rfl rfl ?_
              refine mw_getr C f_Wl_190 d_Wl_node_101 (by decide) rfl rfl ?_
              refine mw_iload_n C 2 d_Wl_node_104 rfl rfl ?_
              refine mw_iconst C (v := nI 4) d_Wl_node_105 (by decide) ?_
              refine mw_isubN C d_Wl_node_106 (by omega) ?_
              refine mw_ialdN C d_Wl_node_107 (by decide) rfl (by omega) (by decide) ?_
              refine mw_eqi (h.2.2.2.2.2.2.1.ba (j - 4) (by omega)) ?_
              refine mw_iret C hR d_Wl_node_108 ?_
              rw [if_neg hne, a_node, if_neg (by omega), if_neg (by omega), if_neg (by omega), if_neg (by omega)]
            ·
              have hj5 : j = 0 ∨ j = 1 ∨ j = 2 ∨ j = 3 := by omega
              rw [if_neg hne]
              rcases hj5 with rfl | rfl | rfl | rfl
              ·
                refine mw_tableIn C 68 d_Wl_node_37 (by decide) (by decide) (off := 31) (by decide) (by decide) ?_
                refine mw_aload_n C 3 d_Wl_node_68 rfl rfl ?_
                refine mw_geti C f_Wl_161 d_Wl_node_69 (by decide) rfl rfl ?_
                refine mw_iret C hR d_Wl_node_72 ?_
                exact h.2.2.2.2.2.2.1.ow
              ·
                refine mw_tableIn C 73 d_Wl_node_37 (by decide) (by decide) (off := 36) (by decide) (by decide) ?_
                refine mw_aload_n C 3 d_Wl_node_73 rfl rfl ?_
                refine mw_geti C f_Wl_164 d_Wl_node_74 (by decide) rfl rfl ?_
                refine mw_iret C hR d_Wl_node_77 ?_
                exact h.2.2.2.2.2.2.1.cm
              ·
                refine mw_tableIn C 78 d_Wl_node_37 (by decide) (by decide) (off := 41) (by decide) (by decide) ?_
                refine mw_aload_n C 3 d_Wl_node_78 rfl rfl ?_
                refine mw_getr C f_Wl_167 d_Wl_node_79 (by decide) rfl rfl ?_
                refine mw_geti C f_Wl_171 d_Wl_node_82 (by decide) rfl rfl ?_
                refine mw_iret C hR d_Wl_node_85 ?_
                exact h.2.2.2.2.2.2.1.oc
              ·
                refine mw_tableIn C 86 d_Wl_node_37 (by decide) (by decide) (off := 49) (by decide) (by decide) ?_
                refine mw_aload_n C 3 d_Wl_node_86 rfl rfl ?_
                refine mw_getr C f_Wl_174 d_Wl_node_87 (by decide) rfl rfl ?_
                refine mw_getl C f_Wl_178 d_Wl_node_90 (by decide) rfl rfl ?_
                refine mw_eql (h.2.2.2.2.2.2.1.ad) ?_
                refine mw_run0i C (ix0 _ _) (mw_invS C (m_Lo_bitCount l D cA _ _) (ix0 _ _) kb_Wl_184 ws_Lo_bitCount d_Wl_node_93 rfl rfl (Nat.le_of_ble_eq_true rfl) rfl rfl ⟨by decide, by decide⟩ ⟨Nat.zero_le _, Nat.zero_le _⟩) (fun x93 e93 => ?_)
                subst e93
                refine mw_iret C hR d_Wl_node_96 ?_
                exact size_eq σ 2
          ·
            refine mw_aload_n C 0 d_Wl_node_29 rfl rfl ?_
            refine mw_getr C f_Wl_38 d_Wl_node_30 (by decide) rfl rfl ?_
            refine mw_iload_n C 1 d_Wl_node_33 rfl rfl ?_
            refine mw_aaldN C d_Wl_node_34 (by decide) rfl (by omega) (by decide) rfl ?_
            refine mw_astore_n C 3 d_Wl_node_35 rfl (by decide) ?_
            refine mw_iload_n C 2 d_Wl_node_36 rfl rfl ?_
            by_cases hj4 : 4 ≤ j
            ·
              refine mw_tableOut C 97 d_Wl_node_37 (Or.inr (by rw [nI_toInt (by omega)]; omega)) (by decide) ?_
              refine mw_aload_n C 3 d_Wl_node_97 rfl rfl ?_
              refine mw_getr C f_Wl_167 d_Wl_node_98 (by decide) rfl rfl ?_
              refine mw_getr C f_Wl_190 d_Wl_node_101 (by decide) rfl rfl ?_
              refine mw_iload_n C 2 d_Wl_node_104 rfl rfl ?_
              refine mw_iconst C (v := nI 4) d_Wl_node_105 (by decide) ?_
              refine mw_isubN C d_Wl_node_106 (by omega) ?_
              refine mw_ialdN C d_Wl_node_107 (by decide) rfl (by omega) (by decide) ?_
              refine mw_eqi (h.2.2.2.2.2.2.2.ba (j - 4) (by omega)) ?_
              refine mw_iret C hR d_Wl_node_108 ?_
              rw [if_neg hne, a_node, if_neg (by omega), if_neg (by omega), if_neg (by omega), if_neg (by omega)]
            ·
              have hj5 : j = 0 ∨ j = 1 ∨ j = 2 ∨ j = 3 := by omega
              rw [if_neg hne]
              rcases hj5 with rfl | rfl | rfl | rfl
              ·
                refine mw_tableIn C 68 d_Wl_node_37 (by decide) (by decide) (off := 31) (by decide) (by decide) ?_
                refine mw_aload_n C 3 d_Wl_node_68 rfl rfl ?_
                refine mw_geti C f_Wl_161 d_Wl_node_69 (by decide) rfl rfl ?_
                refine mw_iret C hR d_Wl_node_72 ?_
                exact h.2.2.2.2.2.2.2.ow
              ·
                refine mw_tableIn C 73 d_Wl_node_37 (by decide) (by decide) (off := 36) (by decide) (by decide) ?_
                refine mw_aload_n C 3 d_Wl_node_73 rfl rfl ?_
                refine mw_geti C f_Wl_164 d_Wl_node_74 (by decide) rfl rfl ?_
                refine mw_iret C hR d_Wl_node_77 ?_
                exact h.2.2.2.2.2.2.2.cm
              ·
                refine mw_tableIn C 78 d_Wl_node_37 (by decide) (by decide) (off := 41) (by decide) (by decide) ?_
                refine mw_aload_n C 3 d_Wl_node_78 rfl rfl ?_
                refine mw_getr C f_Wl_167 d_Wl_node_79 (by decide) rfl rfl ?_
                refine mw_geti C f_Wl_171 d_Wl_node_82 (by decide) rfl rfl ?_
                refine mw_iret C hR d_Wl_node_85 ?_
                exact h.2.2.2.2.2.2.2.oc
              ·
                refine mw_tableIn C 86 d_Wl_node_37 (by decide) (by decide) (off := 49) (by decide) (by decide) ?_
                refine mw_aload_n C 3 d_Wl_node_86 rfl rfl ?_
                refine mw_getr C f_Wl_174 d_Wl_node_87 (by decide) rfl rfl ?_
                refine mw_getl C f_Wl_178 d_Wl_node_90 (by decide) rfl rfl ?_
                refine mw_eql (h.2.2.2.2.2.2.2.ad) ?_
                refine mw_run0i C (ix0 _ _) (mw_invS C (m_Lo_bitCount l D cA _ _) (ix0 _ _) kb_Wl_184 ws_Lo_bitCount d_Wl_node_93 rfl rfl (Nat.le_of_ble_eq_true rfl) rfl rfl ⟨by decide, by decide⟩ ⟨Nat.zero_le _, Nat.zero_le _⟩) (fun x93 e93 => ?_)
                subst e93
                refine mw_iret C hR d_Wl_node_96 ?_
                exact size_eq σ 3
        ·
          have he : node = fy := (slv_eq hn).mp h24
          refine mw_iconst C (v := nI 0) d_Wl_node_27 (by decide) ?_
          refine mw_iret C hR d_Wl_node_28 ?_
          rw [if_pos he]
      · exfalso; omega
  · exact absurd ⟨node, hn, rfl⟩ hk
