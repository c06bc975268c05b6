/-! the graph grows; the book -/
def gr_addS (S : mw_S) (q a p0 k : Nat) : mw_S := if ve_right p0 k (S.2 7 a) = true ∧ ((ve_down p0 k ||| S.2 7 a) &&& (S.2 0 4 ^^^ (-1))) = 0 then mw_uL (mw_uL (mw_uL S 2 q (gr_follow (S.2 2) (ve_down p0 k ||| S.2 7 a) 48)) 3 q (gr_follow (S.2 3) (ve_down p0 k) 48)) 0 4 (S.2 0 4 ||| lN (2 ^ q)) else S
theorem gr_addS_1 (S : mw_S) (q a p0 k : Nat) : (gr_addS S q a p0 k).1 = S.1 := by
  unfold gr_addS
  split <;> rfl
theorem gr_addS_mg (S : mw_S) (q a p0 k : Nat) : mw_mg S [0, 1, 2, 3, 4, 5, 6, 7, 8] (gr_addS (mw_rs S [0, 1, 2, 3, 4, 5, 6, 7, 8]) q a p0 k) = gr_addS S q a p0 k := by
  by_cases h : ve_right p0 k (S.2 7 a) = true ∧ ((ve_down p0 k ||| S.2 7 a) &&& (S.2 0 4 ^^^ (-1))) = 0
  · have h' : ve_right p0 k ((mw_rs S [0, 1, 2, 3, 4, 5, 6, 7, 8]).2 7 a) = true ∧ ((ve_down p0 k ||| (mw_rs S [0, 1, 2, 3, 4, 5, 6, 7, 8]).2 7 a) &&& ((mw_rs S [0, 1, 2, 3, 4, 5, 6, 7, 8]).2 0 4 ^^^ (-1))) = 0 := h
    unfold gr_addS
    rw [if_pos h', if_pos h, mw_mg_uL ix_Gr_Gr (k := 0) (i := 0) (by decide) rfl, mw_mg_uL ix_Gr_Gr (k := 3) (i := 3) (by decide) rfl, mw_mg_uL ix_Gr_Gr (k := 2) (i := 2) (by decide) rfl, mw_mg_rs]
    rfl
  · have h' : ¬ (ve_right p0 k ((mw_rs S [0, 1, 2, 3, 4, 5, 6, 7, 8]).2 7 a) = true ∧ ((ve_down p0 k ||| (mw_rs S [0, 1, 2, 3, 4, 5, 6, 7, 8]).2 7 a) &&& ((mw_rs S [0, 1, 2, 3, 4, 5, 6, 7, 8]).2 0 4 ^^^ (-1))) = 0) := h
    unfold gr_addS
    rw [if_neg h', if_neg h, mw_mg_rs]
set_option maxHeartbeats 4000000 in
set_option maxRecDepth 100000 in
theorem m_Gr_addIfAllowed (l : Launch) (D : va_G) (cA : Nat → ClassId) (q a p0 k : Nat) (S : mw_S) (hq : q < 48) (ha : a < 73) (hp : p0 < 48) (hk : k < 16) (h1 : S.1 1 q = nI a) (h2 : S.1 5 a = nI p0) (h3 : S.1 6 a = nI k) : mw_M true l lw_tbl y_Gr_addIfAllowed b_Gr_addIfAllowed 7 none { frames := 2, cells := 0, slots := 0, locals := 47 } D vCl cA sh_Gr 9 [.inr (.inr 0), .inl (nI q)] (S) (mw_Pv (fun S' => S' = gr_addS S q a p0 k)) := by
  refine mw_M_of (by decide) (Nat.le_of_ble_eq_true rfl) ?_
  intro p e s m args below meth c A ad C hR
  refine mw_aload_n C 0 d_Gr_addIfAllowed_0 rfl rfl ?_
  refine mw_getr C f_Gr_9 d_Gr_addIfAllowed_1 (by decide) rfl rfl ?_
  refine mw_iload_n C 1 d_Gr_addIfAllowed_4 rfl rfl ?_
  refine mw_ialdN C d_Gr_addIfAllowed_5 (by decide) rfl (by omega) (by decide) ?_
  refine mw_eqi h1 ?_
  refine mw_istore_n C 2 d_Gr_addIfAllowed_6 rfl (by decide) ?_
  refine mw_aload_n C 0 d_Gr_addIfAllowed_7 rfl rfl ?_
  refine mw_getr C f_Gr_22 d_Gr_addIfAllowed_8 (by decide) rfl rfl ?_
  refine mw_iload_n C 2 d_Gr_addIfAllowed_11 rfl rfl ?_
  refine mw_run0i C ix_Ve_Gr (mw_invV C (kk := 0) (m_Ve_isRight l D cA a p0 k _ ha hp hk h2 h3) ix_Ve_Gr kb_Gr_47 wm_Ve_isRight wv_Ve_isRight (by decide) rfl rfl d_Gr_addIfAllowed_12 rfl rfl (Nat.le_of_ble_eq_true rfl) rfl rfl ⟨by decide, by decide⟩ ⟨Nat.zero_le _, Nat.zero_le _⟩) (fun x12 e12 => ?_)
  subst e12
  have hlt := lb_nat_lt (ve_right p0 k (S.2 7 a))
  refine mw_eqi (show _ = nI (ve_right p0 k (S.2 7 a)).toNat from rfl) ?_
  refine mw_if_neN C 19 d_Gr_addIfAllowed_15 (by decide) (by omega) (fun h15 => ?_) (fun h15 => ?_)
  ·
    have hri := lb_nat1 h15
    refine mw_aload_n C 0 d_Gr_addIfAllowed_19 rfl rfl ?_
    refine mw_getr C f_Gr_22 d_Gr_addIfAllowed_20 (by decide) rfl rfl ?_
    refine mw_iload_n C 2 d_Gr_addIfAllowed_23 rfl rfl ?_
    refine mw_run0l C ix_Ve_Gr (mw_invV C (kk := 0) (m_Ve_strongPlacesOf l D cA a p0 k _ ha hp hk h2 h3) ix_Ve_Gr kb_Gr_50 wm_Ve_strongPlacesOf wv_Ve_strongPlacesOf (by decide) rfl rfl d_Gr_addIfAllowed_24 rfl rfl (Nat.le_of_ble_eq_true rfl) rfl rfl ⟨by decide, by decide⟩ ⟨Nat.zero_le _, Nat.zero_le _⟩) (fun x24 e24 => ?_)
    subst e24
    refine mw_lstore_n C 3 d_Gr_addIfAllowed_27 rfl (by decide) ?_
    refine mw_lload_n C 3 d_Gr_addIfAllowed_28 rfl rfl ?_
    refine mw_aload_n C 0 d_Gr_addIfAllowed_29 rfl rfl ?_
    refine mw_getr C f_Gr_22 d_Gr_addIfAllowed_30 (by decide) rfl rfl ?_
    refine mw_getr C f_Gr_54 d_Gr_addIfAllowed_33 (by decide) rfl rfl ?_
    refine mw_iload_n C 2 d_Gr_addIfAllowed_36 rfl rfl ?_
    refine mw_laldN C d_Gr_addIfAllowed_37 (by decide) rfl (by omega) (by decide) ?_
    refine mw_lor C d_Gr_addIfAllowed_38 ?_
    refine mw_lstore C d_Gr_addIfAllowed_39 (by decide) ?_
    refine mw_lload C d_Gr_addIfAllowed_41 rfl ?_
    refine mw_aload_n C 0 d_Gr_addIfAllowed_43 rfl rfl ?_
    refine mw_getl C f_Gr_26 d_Gr_addIfAllowed_44 (by decide) rfl rfl ?_
    refine mw_ldc2 C kc_Gr_57 d_Gr_addIfAllowed_47 ?_
    refine mw_lxor C d_Gr_addIfAllowed_50 ?_
    refine mw_land C d_Gr_addIfAllowed_51 ?_
    refine mw_lconst C (v := 0) d_Gr_addIfAllowed_52 (by decide) ?_
    refine mw_lcmp C d_Gr_addIfAllowed_53 ?_
    refine mw_if_ne C 99 d_Gr_addIfAllowed_54 (by decide) (fun h54 => ?_) (fun h54 => ?_)
    ·
      refine mw_vret C hR d_Gr_addIfAllowed_99 ?_
      unfold gr_addS
      rw [if_neg (fun h => h54 ((lg_cmp_eq _ _).mpr h.2))]
    ·
      have hsub := (lg_cmp_eq _ _).mp h54
      refine mw_aload_n C 0 d_Gr_addIfAllowed_57 rfl rfl ?_
      refine mw_getr C f_Gr_15 d_Gr_addIfAllowed_58 (by decide) rfl rfl ?_
      refine mw_iload_n C 1 d_Gr_addIfAllowed_61 rfl rfl ?_
      refine mw_aload_n C 0 d_Gr_addIfAllowed_62 rfl rfl ?_
      refine mw_getr C f_Gr_15 d_Gr_addIfAllowed_63 (by decide) rfl rfl ?_
      refine mw_lload C d_Gr_addIfAllowed_66 rfl ?_
      refine mw_run0l C ix_L1_Gr2 (mw_invS C (m_Gr_follow l D cA _ _) ix_L1_Gr2 kb_Gr_59 ws_Gr_follow d_Gr_addIfAllowed_68 rfl rfl (Nat.le_of_ble_eq_true rfl) rfl rfl ⟨by decide, by decide⟩ ⟨Nat.zero_le _, Nat.zero_le _⟩) (fun x68 e68 => ?_)
      subst e68
      refine mw_lastN C rfl d_Gr_addIfAllowed_71 (by decide) rfl (by omega) (by decide) ?_
      refine mw_aload_n C 0 d_Gr_addIfAllowed_72 rfl rfl ?_
      refine mw_getr C f_Gr_19 d_Gr_addIfAllowed_73 (by decide) rfl rfl ?_
      refine mw_iload_n C 1 d_Gr_addIfAllowed_76 rfl rfl ?_
      refine mw_aload_n C 0 d_Gr_addIfAllowed_77 rfl rfl ?_
      refine mw_getr C f_Gr_19 d_Gr_addIfAllowed_78 (by decide) rfl rfl ?_
      refine mw_lload_n C 3 d_Gr_addIfAllowed_81 rfl rfl ?_
      refine mw_run0l C ix_L1_Gr3 (mw_invS C (m_Gr_follow l D cA _ _) ix_L1_Gr3 kb_Gr_59 ws_Gr_follow d_Gr_addIfAllowed_82 rfl rfl (Nat.le_of_ble_eq_true rfl) rfl rfl ⟨by decide, by decide⟩ ⟨Nat.zero_le _, Nat.zero_le _⟩) (fun x82 e82 => ?_)
      subst e82
      refine mw_lastN C rfl d_Gr_addIfAllowed_85 (by decide) rfl (by omega) (by decide) ?_
      refine mw_aload_n C 0 d_Gr_addIfAllowed_86 rfl rfl ?_
      refine mw_dup C d_Gr_addIfAllowed_87 rfl ?_
      refine mw_getl C f_Gr_26 d_Gr_addIfAllowed_88 (by decide) rfl rfl ?_
      refine mw_iload_n C 1 d_Gr_addIfAllowed_91 rfl rfl ?_
      refine mw_run0l C (ix0 _ _) (mw_invS C (m_Wl_bitOf l D cA q (by omega) _) (ix0 _ _) kb_Gr_63 ws_Wl_bitOf d_Gr_addIfAllowed_92 rfl rfl (Nat.le_of_ble_eq_true rfl) rfl rfl ⟨by decide, by decide⟩ ⟨Nat.zero_le _, Nat.zero_le _⟩) (fun x92 e92 => ?_)
      subst e92
      refine mw_lor C d_Gr_addIfAllowed_95 ?_
      refine mw_putl C rfl f_Gr_26 p_Gr_4 d_Gr_addIfAllowed_96 (by decide) rfl rfl ?_
      refine mw_vret C hR d_Gr_addIfAllowed_99 ?_
      unfold gr_addS
      rw [if_pos ⟨hri, hsub⟩]
      rfl
  ·
    refine mw_vret C hR d_Gr_addIfAllowed_18 ?_
    unfold gr_addS
    rw [if_neg (fun h => by rw [h.1] at h15; cases h15)]
def gr_pass (acc vp vs : Nat → Nat) : Nat → mw_S → mw_S
  | 0, S => S
  | q + 1, S => if 0 < acc q ∧ lb ((gr_pass acc vp vs q S).2 0 4) q = false then gr_addS (gr_pass acc vp vs q S) q (acc q) (vp (acc q)) (vs (acc q)) else gr_pass acc vp vs q S
theorem gr_pass_1 (acc vp vs : Nat → Nat) (S : mw_S) : ∀ q, (gr_pass acc vp vs q S).1 = S.1
  | 0 => rfl
  | q + 1 => by
    unfold gr_pass
    split
    · rw [gr_addS_1, gr_pass_1]
    · exact gr_pass_1 acc vp vs S q
set_option maxHeartbeats 4000000 in
set_option maxRecDepth 100000 in
theorem m_Gr_accept (l : Launch) (D : va_G) (cA : Nat → ClassId) (v : Nat) (acc vp vs : Nat → Nat) (S : mw_S) (hv : v < 73) (hacc : ∀ j, j < 48 → S.1 1 j = nI (acc j) ∧ acc j < 73) (hvp : ∀ u, u < 73 → S.1 5 u = nI (vp u) ∧ vp u < 48) (hvs : ∀ u, u < 73 → S.1 6 u = nI (vs u) ∧ vs u < 16) : mw_M true l lw_tbl y_Gr_accept b_Gr_accept 3 none { frames := 3, cells := 0, slots := 0, locals := 73 } D vCl cA sh_Gr 9 [.inr (.inr 0), .inl (nI v)] (S) (mw_Pv (fun S' => S' = gr_pass (fun j => if j = vp v then v else acc j) vp vs 48 (mw_uI S 1 (vp v) (nI v)))) := by
  refine mw_M_of (by decide) (Nat.le_of_ble_eq_true rfl) ?_
  intro p e s m args below meth c A ad C hR
  have hb : ∀ j, j < 48 → (mw_uI S 1 (vp v) (nI v)).1 1 j = nI (if j = vp v then v else acc j) ∧ (if j = vp v then v else acc j) < 73 := by
    intro j hj
    refine ⟨?_, ?_⟩
    · show upd (S.1 1) (vp v) (nI v) j = _
      unfold upd
      by_cases e0 : j = vp v
      · rw [if_pos e0, if_pos e0]
      · rw [if_neg e0, if_neg e0]; exact (hacc j hj).1
    · by_cases e0 : j = vp v
      · rw [if_pos e0]; exact hv
      · rw [if_neg e0]; exact (hacc j hj).2
  generalize hacc1 : (fun j => if j = vp v then v else acc j) = acc1
  have hb : ∀ j, j < 48 → (mw_uI S 1 (vp v) (nI v)).1 1 j = nI (acc1 j) ∧ acc1 j < 73 := by
    intro j hj
    rw [← hacc1]
    exact hb j hj
  have L : ∀ (dd i : Nat), i + dd = 48 → mw p l e { frames := 3, cells := 0, slots := 0, locals := 73 } s m args below meth c (MQ below (mw_Qc true D vCl cA ad sh_Gr 9 s.heap.size S (mw_Pv (fun S' => S' = gr_pass acc1 vp vs 48 (mw_uI S 1 (vp v) (nI v))))) args s 0 0 A) 0 0 D vCl cA A ad sh_Gr 9 3 17 [(2, .inl (nI i)), (0, .inr (.inr 0)), (1, .inl (nI v))] [] (gr_pass acc1 vp vs i (mw_uI S 1 (vp v) (nI v))) := by
    intro dd
    induction dd with
    | zero =>
      intro i hi
      refine mw_iload_n C 2 d_Gr_accept_17 rfl rfl ?_
      refine mw_bipush C (v := nI 48) d_Gr_accept_18 (by decide) ?_
      refine mw_icmp_geN C 51 d_Gr_accept_20 (by decide) (by omega) (by omega) (fun h20 => ?_) (fun h20 => ?_)
      ·
        refine mw_vret C hR d_Gr_accept_51 ?_
        rw [show i = 48 from by omega]
      · exfalso; omega
    | succ dd ih =>
      intro i hi
      have ea := gr_pass_1 acc1 vp vs (mw_uI S 1 (vp v) (nI v)) i
      have hai := hb i (by omega)
      have hb1 : (gr_pass acc1 vp vs i (mw_uI S 1 (vp v) (nI v))).1 1 i = nI (acc1 i) := by rw [ea]; exact hai.1
      have hlt := hai.2
      refine mw_iload_n C 2 d_Gr_accept_17 rfl rfl ?_
      refine mw_bipush C (v := nI 48) d_Gr_accept_18 (by decide) ?_
      refine mw_icmp_geN C 51 d_Gr_accept_20 (by decide) (by omega) (by omega) (fun h20 => ?_) (fun h20 => ?_)
      · exfalso; omega
      ·
        refine mw_aload_n C 0 d_Gr_accept_23 rfl rfl ?_
        refine mw_getr C f_Gr_9 d_Gr_accept_24 (by decide) rfl rfl ?_
        refine mw_iload_n C 2 d_Gr_accept_27 rfl rfl ?_
        refine mw_ialdN C d_Gr_accept_28 (by decide) rfl (by omega) (by decide) ?_
        refine mw_eqi hb1 ?_
        refine mw_if_eqN C 45 d_Gr_accept_29 (by decide) (by omega) (fun h29 => ?_) (fun h29 => ?_)
        ·
          refine mw_iincN C d_Gr_accept_45 rfl (by decide) ?_
          refine mw_goto C 17 d_Gr_accept_48 (by decide) ?_
          refine mw_eq _ _ _ (by exact And.intro rfl (And.intro rfl (And.intro rfl (trivial)))) rfl ?_ (ih (i + 1) (by omega))
          rw [gr_pass, if_neg (fun h => by omega)]
        ·
          refine mw_aload_n C 0 d_Gr_accept_32 rfl rfl ?_
          refine mw_iload_n C 2 d_Gr_accept_33 rfl rfl ?_
          refine mw_run0i C ix_Gr_Gr (mw_invV C (kk := 0) (m_Gr_has l D cA i (by omega) _) ix_Gr_Gr kb_Gr_39 wm_Gr_has wv_Gr_has (by decide) rfl rfl d_Gr_accept_34 rfl rfl (Nat.le_of_ble_eq_true rfl) rfl rfl ⟨by decide, by decide⟩ ⟨Nat.zero_le _, Nat.zero_le _⟩) (fun x34 e34 => ?_)
          subst e34
          refine mw_eqi (show _ = nI (lb ((gr_pass acc1 vp vs i (mw_uI S 1 (vp v) (nI v))).2 0 4) i).toNat from rfl) ?_
          have hlt2 := lb_nat_lt (lb ((gr_pass acc1 vp vs i (mw_uI S 1 (vp v) (nI v))).2 0 4) i)
          refine mw_if_neN C 45 d_Gr_accept_37 (by decide) (by omega) (fun h37 => ?_) (fun h37 => ?_)
          ·
            refine mw_iincN C d_Gr_accept_45 rfl (by decide) ?_
            refine mw_goto C 17 d_Gr_accept_48 (by decide) ?_
            refine mw_eq _ _ _ (by exact And.intro rfl (And.intro rfl (And.intro rfl (trivial)))) rfl ?_ (ih (i + 1) (by omega))
            rw [gr_pass, if_neg (fun h => by rw [h.2] at h37; cases h37)]
          ·
            refine mw_aload_n C 0 d_Gr_accept_40 rfl rfl ?_
            refine mw_iload_n C 2 d_Gr_accept_41 rfl rfl ?_
            refine mw_runv C ix_Gr_Gr rfl (mw_invV C (kk := 0) (m_Gr_addIfAllowed l D cA i (acc1 i) (vp (acc1 i)) (vs (acc1 i)) _ (by omega) hlt (hvp _ hlt).2 (hvs _ hlt).2 hb1 (by show (gr_pass acc1 vp vs i (mw_uI S 1 (vp v) (nI v))).1 5 (acc1 i) = _; rw [ea]; exact (hvp _ hlt).1) (by show (gr_pass acc1 vp vs i (mw_uI S 1 (vp v) (nI v))).1 6 (acc1 i) = _; rw [ea]; exact (hvs _ hlt).1)) ix_Gr_Gr kb_Gr_43 wm_Gr_addIfAllowed wv_Gr_addIfAllowed (by decide) rfl rfl d_Gr_accept_42 rfl rfl (Nat.le_of_ble_eq_true rfl) rfl rfl ⟨by decide, by decide⟩ ⟨Nat.zero_le _, Nat.zero_le _⟩) (fun S42 e42 => ?_)
            subst e42
            refine mw_iincN C d_Gr_accept_45 rfl (by decide) ?_
            refine mw_goto C 17 d_Gr_accept_48 (by decide) ?_
            refine mw_eq _ _ _ (by exact And.intro rfl (And.intro rfl (And.intro rfl (trivial)))) rfl ?_ (ih (i + 1) (by omega))
            rw [gr_pass, if_pos ⟨h29, lb_nat0 h37⟩]
            exact gr_addS_mg _ _ _ _ _
  refine mw_aload_n C 0 d_Gr_accept_0 rfl rfl ?_
  refine mw_getr C f_Gr_9 d_Gr_accept_1 (by decide) rfl rfl ?_
  refine mw_aload_n C 0 d_Gr_accept_4 rfl rfl ?_
  refine mw_getr C f_Gr_22 d_Gr_accept_5 (by decide) rfl rfl ?_
  refine mw_getr C f_Gr_34 d_Gr_accept_8 (by decide) rfl rfl ?_
  refine mw_iload_n C 1 d_Gr_accept_11 rfl rfl ?_
  refine mw_ialdN C d_Gr_accept_12 (by decide) rfl (by omega) (by decide) ?_
  refine mw_eqi (hvp v hv).1 ?_
  have hvv := (hvp v hv).2
  refine mw_iload_n C 1 d_Gr_accept_13 rfl rfl ?_
  refine mw_iastN C rfl d_Gr_accept_14 (by decide) rfl (by omega) (by decide) ?_
  refine mw_iconst C (v := nI 0) d_Gr_accept_15 (by decide) ?_
  refine mw_istore_n C 2 d_Gr_accept_16 rfl (by decide) ?_
  exact mw_to _ (by exact And.intro rfl (And.intro rfl (And.intro rfl (trivial)))) (L 48 0 rfl)
def gr_wk1 (paths : Nat → Int64) (added : Int64) (q : Nat) (x : Int64 × Int64) : Int64 × Int64 := if lb added q = true ∧ lb x.2 q = false then (x.1 ||| lN (2 ^ q), x.2 ||| (lN (2 ^ q) ||| paths q)) else x
def gr_wkr (paths : Nat → Int64) (added : Int64) (b : Nat) : Nat → Int64 × Int64 → Int64 × Int64
  | 0, x => x
  | k + 1, x => gr_wk1 paths added (4 * b + k) (gr_wkr paths added b k x)
def gr_wk (paths : Nat → Int64) (added : Int64) : Nat → Int64 × Int64 → Int64 × Int64
  | 0, x => x
  | b + 1, x => gr_wk paths added b (gr_wkr paths added b 4 x)
set_option maxHeartbeats 4000000 in
set_option maxRecDepth 100000 in
theorem m_Gr_weakPlacesFor (l : Launch) (D : va_G) (cA : Nat → ClassId) (r : Nat) (hr : 2 ≤ r) (hr2 : r ≤ 12) (S : mw_S) : mw_M false l lw_tbl y_Gr_weakPlacesFor b_Gr_weakPlacesFor 11 (some .long) { frames := 2, cells := 0, slots := 0, locals := 47 } D vCl cA sh_Gr 9 [.inr (.inr 0), .inl (nI r)] (S) (mw_Pl (fun z _ => z = (gr_wk (S.2 2) (S.2 0 4) (r - 2) (0, gr_follow (S.2 2) (lN (four (S.2 0 4) (4 * (r - 2)) * 2 ^ (4 * (r - 2)))) 48)).1)) := by
  refine mw_M_of (by decide) (Nat.le_of_ble_eq_true rfl) ?_
  intro p e s m args below meth c A ad C hR
  have L : ∀ (b : Nat) (x y : Int64), b ≤ 10 → (gr_wk (S.2 2) (S.2 0 4) b (x, y)).1 = (gr_wk (S.2 2) (S.2 0 4) (r - 2) (0, gr_follow (S.2 2) (lN (four (S.2 0 4) (4 * (r - 2)) * 2 ^ (4 * (r - 2)))) 48)).1 → ∀ sl, mw p l e { frames := 2, cells := 0, slots := 0, locals := 47 } s m args below meth c (MQ below (mw_Qc false D vCl cA ad sh_Gr 9 s.heap.size (S) (mw_Pl (fun z _ => z = (gr_wk (S.2 2) (S.2 0 4) (r - 2) (0, gr_follow (S.2 2) (lN (four (S.2 0 4) (4 * (r - 2)) * 2 ^ (4 * (r - 2)))) 48)).1))) args s 0 0 A) 0 0 D vCl cA A ad sh_Gr 9 11 (35) ([(8, .inl (nI b)), (6, .inr (.inl x)), (4, .inr (.inl y)), (2, .inr (.inl sl)), (0, .inr (.inr 0)), (1, .inl (nI r))]) ([]) (S) := by
    intro b
    induction b with
    | zero =>
      intro x y hb hx sl
      refine mw_iload C d_Gr_weakPlacesFor_35 rfl ?_
      refine mw_iconst C (v := nI 1) d_Gr_weakPlacesFor_37 (by decide) ?_
      refine mw_icmp_ltN C 118 d_Gr_weakPlacesFor_38 (by decide) (by omega) (by omega) (fun h38 => ?_) (fun h38 => ?_)
      ·
        refine mw_lload C d_Gr_weakPlacesFor_118 rfl ?_
        refine mw_lret C hR d_Gr_weakPlacesFor_120 ?_
        exact hx
      · exfalso; omega
    | succ b ih =>
      intro x y hb hx sl
      have M : ∀ (dd i : Nat) (z : Int64 × Int64), i + dd = 4 → z = gr_wkr (S.2 2) (S.2 0 4) b i (x, y) → mw p l e { frames := 2, cells := 0, slots := 0, locals := 47 } s m args below meth c (MQ below (mw_Qc false D vCl cA ad sh_Gr 9 s.heap.size (S) (mw_Pl (fun z _ => z = (gr_wk (S.2 2) (S.2 0 4) (r - 2) (0, gr_follow (S.2 2) (lN (four (S.2 0 4) (4 * (r - 2)) * 2 ^ (4 * (r - 2)))) 48)).1))) args s 0 0 A) 0 0 D vCl cA A ad sh_Gr 9 11 (44) ([(9, .inl (nI i)), (8, .inl (nI (b + 1))), (6, .inr (.inl z.1)), (4, .inr (.inl z.2)), (2, .inr (.inl sl)), (0, .inr (.inr 0)), (1, .inl (nI r))]) ([]) (S) := by
        intro dd
        induction dd with
        | zero =>
          intro i z hi hz
          refine mw_iload C d_Gr_weakPlacesFor_44 rfl ?_
          refine mw_iconst C (v := nI 4) d_Gr_weakPlacesFor_46 (by decide) ?_
          refine mw_icmp_geN C 112 d_Gr_weakPlacesFor_47 (by decide) (by omega) (by omega) (fun h47 => ?_) (fun h47 => ?_)
          ·
            refine mw_idecN C d_Gr_weakPlacesFor_112 rfl (by decide) ?_
            refine mw_goto C 35 d_Gr_weakPlacesFor_115 (by decide) ?_
            exact mw_to _ (by exact And.intro rfl (And.intro rfl (And.intro rfl (And.intro rfl (And.intro rfl (And.intro rfl (trivial))))))) (ih z.1 z.2 (by omega) (by
              rw [← hx, gr_wk, hz, show i = 4 from by omega]) sl)
          · exfalso; omega
        | succ dd ih2 =>
          intro i z hi hz
          refine mw_iload C d_Gr_weakPlacesFor_44 rfl ?_
          refine mw_iconst C (v := nI 4) d_Gr_weakPlacesFor_46 (by decide) ?_
          refine mw_icmp_geN C 112 d_Gr_weakPlacesFor_47 (by decide) (by omega) (by omega) (fun h47 => ?_) (fun h47 => ?_)
          · exfalso; omega
          ·
            refine mw_iload C d_Gr_weakPlacesFor_50 rfl ?_
            refine mw_iload C d_Gr_weakPlacesFor_52 rfl ?_
            refine mw_run0i C (ix0 _ _) (mw_invS C (m_Wl_numberOf l D cA (b + 1) i (by omega) _) (ix0 _ _) kb_Gr_66 ws_Wl_numberOf d_Gr_weakPlacesFor_54 rfl rfl (Nat.le_of_ble_eq_true rfl) rfl rfl ⟨by decide, by decide⟩ ⟨Nat.zero_le _, Nat.zero_le _⟩) (fun x54 e54 => ?_)
            subst e54
            refine mw_eqi (show _ = nI (4 * b + i) from rfl) ?_
            refine mw_istore C d_Gr_weakPlacesFor_57 (by decide) ?_
            refine mw_aload_n C 0 d_Gr_weakPlacesFor_59 rfl rfl ?_
            refine mw_iload C d_Gr_weakPlacesFor_60 rfl ?_
            refine mw_run0i C ix_Gr_Gr (mw_invV C (kk := 0) (m_Gr_has l D cA (4 * b + i) (by omega) _) ix_Gr_Gr kb_Gr_39 wm_Gr_has wv_Gr_has (by decide) rfl rfl d_Gr_weakPlacesFor_62 rfl rfl (Nat.le_of_ble_eq_true rfl) rfl rfl ⟨by decide, by decide⟩ ⟨Nat.zero_le _, Nat.zero_le _⟩) (fun x62 e62 => ?_)
            subst e62
            refine mw_eqi (show _ = nI (lb (S.2 0 4) (4 * b + i)).toNat from rfl) ?_
            have hlt := lb_nat_lt (lb (S.2 0 4) (4 * b + i))
            refine mw_if_eqN C 106 d_Gr_weakPlacesFor_65 (by decide) (by omega) (fun h65 => ?_) (fun h65 => ?_)
            ·
              refine mw_iincN C d_Gr_weakPlacesFor_106 rfl (by decide) ?_
              refine mw_goto C 44 d_Gr_weakPlacesFor_109 (by decide) ?_
              exact mw_to _ (by exact And.intro rfl (And.intro rfl (And.intro rfl (And.intro rfl (And.intro rfl (And.intro rfl (And.intro rfl (trivial)))))))) (ih2 (i + 1) z (by omega) (by
                rw [gr_wkr, ← hz, gr_wk1, if_neg (fun h => by rw [h.1] at h65; cases h65)]))
            ·
              refine mw_lload C d_Gr_weakPlacesFor_68 rfl ?_
              refine mw_iload C d_Gr_weakPlacesFor_70 rfl ?_
              refine mw_run0i C (ix0 _ _) (mw_invS C (m_Wl_contains l D cA z.2 (4 * b + i) (by omega) _) (ix0 _ _) kb_Gr_30 ws_Wl_contains d_Gr_weakPlacesFor_72 rfl rfl (Nat.le_of_ble_eq_true rfl) rfl rfl ⟨by decide, by decide⟩ ⟨Nat.zero_le _, Nat.zero_le _⟩) (fun x72 e72 => ?_)
              subst e72
              have hlt2 := lb_nat_lt (lb z.2 (4 * b + i))
              refine mw_if_neN C 106 d_Gr_weakPlacesFor_75 (by decide) (by omega) (fun h75 => ?_) (fun h75 => ?_)
              ·
                refine mw_iincN C d_Gr_weakPlacesFor_106 rfl (by decide) ?_
                refine mw_goto C 44 d_Gr_weakPlacesFor_109 (by decide) ?_
                exact mw_to _ (by exact And.intro rfl (And.intro rfl (And.intro rfl (And.intro rfl (And.intro rfl (And.intro rfl (And.intro rfl (trivial)))))))) (ih2 (i + 1) z (by omega) (by
                  rw [gr_wkr, ← hz, gr_wk1, if_neg (fun h => by rw [h.2] at h75; cases h75)]))
              ·
                refine mw_lload C d_Gr_weakPlacesFor_78 rfl ?_
                refine mw_iload C d_Gr_weakPlacesFor_80 rfl ?_
                refine mw_run0l C (ix0 _ _) (mw_invS C (m_Wl_bitOf l D cA (4 * b + i) (by omega) _) (ix0 _ _) kb_Gr_63 ws_Wl_bitOf d_Gr_weakPlacesFor_82 rfl rfl (Nat.le_of_ble_eq_true rfl) rfl rfl ⟨by decide, by decide⟩ ⟨Nat.zero_le _, Nat.zero_le _⟩) (fun x82 e82 => ?_)
                subst e82
                refine mw_lor C d_Gr_weakPlacesFor_85 ?_
                refine mw_lstore C d_Gr_weakPlacesFor_86 (by decide) ?_
                refine mw_lload C d_Gr_weakPlacesFor_88 rfl ?_
                refine mw_iload C d_Gr_weakPlacesFor_90 rfl ?_
                refine mw_run0l C (ix0 _ _) (mw_invS C (m_Wl_bitOf l D cA (4 * b + i) (by omega) _) (ix0 _ _) kb_Gr_63 ws_Wl_bitOf d_Gr_weakPlacesFor_92 rfl rfl (Nat.le_of_ble_eq_true rfl) rfl rfl ⟨by decide, by decide⟩ ⟨Nat.zero_le _, Nat.zero_le _⟩) (fun x92 e92 => ?_)
                subst e92
                refine mw_aload_n C 0 d_Gr_weakPlacesFor_95 rfl rfl ?_
                refine mw_getr C f_Gr_15 d_Gr_weakPlacesFor_96 (by decide) rfl rfl ?_
                refine mw_iload C d_Gr_weakPlacesFor_99 rfl ?_
                refine mw_laldN C d_Gr_weakPlacesFor_101 (by decide) rfl (by omega) (by decide) ?_
                refine mw_lor C d_Gr_weakPlacesFor_102 ?_
                refine mw_lor C d_Gr_weakPlacesFor_103 ?_
                refine mw_lstore C d_Gr_weakPlacesFor_104 (by decide) ?_
                refine mw_iincN C d_Gr_weakPlacesFor_106 rfl (by decide) ?_
                refine mw_goto C 44 d_Gr_weakPlacesFor_109 (by decide) ?_
                exact mw_to _ (by exact And.intro rfl (And.intro rfl (And.intro rfl (And.intro rfl (And.intro rfl (And.intro rfl (And.intro rfl (trivial)))))))) (ih2 (i + 1) (z.1 ||| lN (2 ^ (4 * b + i)), z.2 ||| (lN (2 ^ (4 * b + i)) ||| S.2 2 (4 * b + i))) (by omega) (by
                  rw [gr_wkr, ← hz, gr_wk1, if_pos ⟨lb_nat1 h65, lb_nat0 h75⟩]))
      refine mw_iload C d_Gr_weakPlacesFor_35 rfl ?_
      refine mw_iconst C (v := nI 1) d_Gr_weakPlacesFor_37 (by decide) ?_
      refine mw_icmp_ltN C 118 d_Gr_weakPlacesFor_38 (by decide) (by omega) (by omega) (fun h38 => ?_) (fun h38 => ?_)
      · exfalso; omega
      ·
        refine mw_iconst C (v := nI 0) d_Gr_weakPlacesFor_41 (by decide) ?_
        refine mw_istore C d_Gr_weakPlacesFor_42 (by decide) ?_
        exact mw_to _ (by exact And.intro rfl (And.intro rfl (And.intro rfl (And.intro rfl (And.intro rfl (And.intro rfl (And.intro rfl (trivial)))))))) (M 4 0 (x, y) rfl rfl)
  refine mw_aload_n C 0 d_Gr_weakPlacesFor_0 rfl rfl ?_
  refine mw_iload_n C 1 d_Gr_weakPlacesFor_1 rfl rfl ?_
  refine mw_iconst C (v := nI 1) d_Gr_weakPlacesFor_2 (by decide) ?_
  refine mw_isubN C d_Gr_weakPlacesFor_3 (by omega) ?_
  refine mw_run0i C ix_Gr_Gr (mw_invV C (kk := 0) (m_Gr_nodesIn l D cA (r - 1) (by omega) (by omega) _) ix_Gr_Gr kb_Gr_70 wm_Gr_nodesIn wv_Gr_nodesIn (by decide) rfl rfl d_Gr_weakPlacesFor_4 rfl rfl (Nat.le_of_ble_eq_true rfl) rfl rfl ⟨by decide, by decide⟩ ⟨Nat.zero_le _, Nat.zero_le _⟩) (fun x4 e4 => ?_)
  subst e4
  refine mw_eqi (show _ = nI (four (S.2 0 4) (4 * (r - 1 - 1))) from rfl) ?_
  refine mw_i2l C d_Gr_weakPlacesFor_7 ?_
  refine mw_iload_n C 1 d_Gr_weakPlacesFor_8 rfl rfl ?_
  refine mw_iconst C (v := nI 1) d_Gr_weakPlacesFor_9 (by decide) ?_
  refine mw_isubN C d_Gr_weakPlacesFor_10 (by omega) ?_
  refine mw_iconst C (v := nI 0) d_Gr_weakPlacesFor_11 (by decide) ?_
  refine mw_run0i C (ix0 _ _) (mw_invS C (m_Wl_numberOf l D cA (r - 1) 0 (by omega) _) (ix0 _ _) kb_Gr_66 ws_Wl_numberOf d_Gr_weakPlacesFor_12 rfl rfl (Nat.le_of_ble_eq_true rfl) rfl rfl ⟨by decide, by decide⟩ ⟨Nat.zero_le _, Nat.zero_le _⟩) (fun x12 e12 => ?_)
  subst e12
  refine mw_lshl C d_Gr_weakPlacesFor_15 ?_
  refine mw_eql (show _ = lN (four (S.2 0 4) (4 * (r - 2)) * 2 ^ (4 * (r - 2))) from by
    have h4 := four_lt (S.2 0 4) (4 * (r - 1 - 1))
    rw [nI_l (by omega), wb_shl _ (by omega), show 4 * (r - 1 - 1) + 0 = 4 * (r - 2) from by omega, show 4 * (r - 1 - 1) = 4 * (r - 2) from by omega]) ?_
  refine mw_lstore_n C 2 d_Gr_weakPlacesFor_16 rfl (by decide) ?_
  refine mw_aload_n C 0 d_Gr_weakPlacesFor_17 rfl rfl ?_
  refine mw_getr C f_Gr_15 d_Gr_weakPlacesFor_18 (by decide) rfl rfl ?_
  refine mw_lload_n C 2 d_Gr_weakPlacesFor_21 rfl rfl ?_
  refine mw_run0l C ix_L1_Gr2 (mw_invS C (m_Gr_follow l D cA _ _) ix_L1_Gr2 kb_Gr_59 ws_Gr_follow d_Gr_weakPlacesFor_22 rfl rfl (Nat.le_of_ble_eq_true rfl) rfl rfl ⟨by decide, by decide⟩ ⟨Nat.zero_le _, Nat.zero_le _⟩) (fun x22 e22 => ?_)
  subst e22
  refine mw_lstore C d_Gr_weakPlacesFor_25 (by decide) ?_
  refine mw_lconst C (v := 0) d_Gr_weakPlacesFor_27 (by decide) ?_
  refine mw_lstore C d_Gr_weakPlacesFor_28 (by decide) ?_
  refine mw_iload_n C 1 d_Gr_weakPlacesFor_30 rfl rfl ?_
  refine mw_iconst C (v := nI 2) d_Gr_weakPlacesFor_31 (by decide) ?_
  refine mw_isubN C d_Gr_weakPlacesFor_32 (by omega) ?_
  refine mw_istore C d_Gr_weakPlacesFor_33 (by decide) ?_
  exact mw_to _ (by exact And.intro rfl (And.intro rfl (And.intro rfl (And.intro rfl (And.intro rfl (And.intro rfl (trivial))))))) (L (r - 2) 0 _ (by omega) rfl _)

def sh_Bo : Nat → mw_H := fun k => [.inr (0, [.inr 1, .inr 2, .inl 1, .inl 0]), .inl (0, 48, .inl 0), .inl (0, 4, .inl 0)].getD k (.inr (0, []))
def bo_bal (bal : Nat → Nat) (t : Nat) (j : Nat) : Nat := if t / 1000 ≤ bal (t % 1000 / 10) then (if j = t % 10 then (if t % 10 = t % 1000 / 10 then bal (t % 1000 / 10) - t / 1000 else bal (t % 10)) + t / 1000 else if j = t % 1000 / 10 then bal (t % 1000 / 10) - t / 1000 else bal j) else bal j
set_option maxHeartbeats 4000000 in
set_option maxRecDepth 100000 in
theorem m_Bo_enter (l : Launch) (D : va_G) (cA : Nat → ClassId) (q t cn : Nat) (bal : Nat → Nat) (S : mw_S) (hq : q < 48) (ht : t < 2 ^ 31) (hf : t % 1000 / 10 < 4) (hg : t % 10 < 4) (hc : cn < 48) (h0 : S.1 0 3 = nI cn) (hb : ∀ j, j < 4 → S.1 2 j = nI (bal j) ∧ bal j < 2 ^ 20) : mw_M true l lw_tbl y_Bo_enter b_Bo_enter 4 none { frames := 1, cells := 0, slots := 0, locals := 20 } D vCl cA sh_Bo 3 [.inr (.inr 0), .inl (nI q), .inl (nI t)] (S) (mw_Pv (fun S' => S'.1 0 3 = nI (cn + 1) ∧ S'.2 0 2 = S.2 0 2 ||| lN (2 ^ q) ∧ S'.1 1 = upd (S.1 1) cn (nI q) ∧ ∀ j, j < 4 → S'.1 2 j = nI (bo_bal bal t j))) := by
  refine mw_M_of (by decide) (Nat.le_of_ble_eq_true rfl) ?_
  intro p e s m args below meth c A ad C hR
  refine mw_aload_n C 0 d_Bo_enter_0 rfl rfl ?_
  refine mw_getr C f_Bo_9 d_Bo_enter_1 (by decide) rfl rfl ?_
  refine mw_aload_n C 0 d_Bo_enter_4 rfl rfl ?_
  refine mw_geti C f_Bo_18 d_Bo_enter_5 (by decide) rfl rfl ?_
  refine mw_eqi h0 ?_
  refine mw_iload_n C 1 d_Bo_enter_8 rfl rfl ?_
  refine mw_iastN C rfl d_Bo_enter_9 (by decide) rfl (by omega) (by decide) ?_
  refine mw_aload_n C 0 d_Bo_enter_10 rfl rfl ?_
  refine mw_dup C d_Bo_enter_11 rfl ?_
  refine mw_geti C f_Bo_18 d_Bo_enter_12 (by decide) rfl rfl ?_
  refine mw_eqi (show _ = nI cn from h0) ?_
  refine mw_iconst C (v := nI 1) d_Bo_enter_15 (by decide) ?_
  refine mw_iaddN C d_Bo_enter_16 ?_
  refine mw_puti C rfl f_Bo_18 p_Bo_3 d_Bo_enter_17 (by decide) rfl rfl ?_
  refine mw_aload_n C 0 d_Bo_enter_20 rfl rfl ?_
  refine mw_dup C d_Bo_enter_21 rfl ?_
  refine mw_getl C f_Bo_22 d_Bo_enter_22 (by decide) rfl rfl ?_
  refine mw_iload_n C 1 d_Bo_enter_25 rfl rfl ?_
  refine mw_run0l C (ix0 _ _) (mw_invS C (m_Wl_bitOf l D cA q (by omega) _) (ix0 _ _) kb_Bo_26 ws_Wl_bitOf d_Bo_enter_26 rfl rfl (Nat.le_of_ble_eq_true rfl) rfl rfl ⟨by decide, by decide⟩ ⟨Nat.zero_le _, Nat.zero_le _⟩) (fun x26 e26 => ?_)
  subst e26
  refine mw_lor C d_Bo_enter_29 ?_
  refine mw_putl C rfl f_Bo_22 p_Bo_2 d_Bo_enter_30 (by decide) rfl rfl ?_
  refine mw_iload_n C 2 d_Bo_enter_33 rfl rfl ?_
  refine mw_sipush C (v := nI 1000) d_Bo_enter_34 (by decide) ?_
  refine mw_idivN C d_Bo_enter_37 (by omega) (by decide) (by decide) ?_
  refine mw_istore_n C 3 d_Bo_enter_38 rfl (by decide) ?_
  refine mw_aload_n C 0 d_Bo_enter_39 rfl rfl ?_
  refine mw_getr C f_Bo_15 d_Bo_enter_40 (by decide) rfl rfl ?_
  refine mw_iload_n C 2 d_Bo_enter_43 rfl rfl ?_
  refine mw_run0i C (ix0 _ _) (mw_invS C (m_Wl_payerOf l D cA t ht _) (ix0 _ _) kb_Bo_30 ws_Wl_payerOf d_Bo_enter_44 rfl rfl (Nat.le_of_ble_eq_true rfl) rfl rfl ⟨by decide, by decide⟩ ⟨Nat.zero_le _, Nat.zero_le _⟩) (fun x44 e44 => ?_)
  subst e44
  refine mw_ialdN C d_Bo_enter_47 (by decide) rfl (by omega) (by decide) ?_
  refine mw_eqi (show _ = nI (bal (t % 1000 / 10)) from (hb _ hf).1) ?_
  have hbf := (hb _ hf).2
  refine mw_iload_n C 3 d_Bo_enter_48 rfl rfl ?_
  refine mw_icmp_ltN C 78 d_Bo_enter_49 (by decide) (by omega) (by omega) (fun h49 => ?_) (fun h49 => ?_)
  ·
    refine mw_vret C hR d_Bo_enter_78 ?_
    refine ⟨rfl, rfl, rfl, fun j hj => ?_⟩
    unfold bo_bal
    rw [if_neg (by omega)]
    exact (hb j hj).1
  ·
    refine mw_aload_n C 0 d_Bo_enter_52 rfl rfl ?_
    refine mw_getr C f_Bo_15 d_Bo_enter_53 (by decide) rfl rfl ?_
    refine mw_iload_n C 2 d_Bo_enter_56 rfl rfl ?_
    refine mw_run0i C (ix0 _ _) (mw_invS C (m_Wl_payerOf l D cA t ht _) (ix0 _ _) kb_Bo_30 ws_Wl_payerOf d_Bo_enter_57 rfl rfl (Nat.le_of_ble_eq_true rfl) rfl rfl ⟨by decide, by decide⟩ ⟨Nat.zero_le _, Nat.zero_le _⟩) (fun x57 e57 => ?_)
    subst e57
    refine mw_dup2_11 C d_Bo_enter_60 rfl rfl ?_
    refine mw_ialdN C d_Bo_enter_61 (by decide) rfl (by omega) (by decide) ?_
    refine mw_eqi (show _ = nI (bal (t % 1000 / 10)) from (hb _ hf).1) ?_
    refine mw_iload_n C 3 d_Bo_enter_62 rfl rfl ?_
    refine mw_isubN C d_Bo_enter_63 (by omega) ?_
    refine mw_iastN C rfl d_Bo_enter_64 (by decide) rfl (by omega) (by decide) ?_
    refine mw_aload_n C 0 d_Bo_enter_65 rfl rfl ?_
    refine mw_getr C f_Bo_15 d_Bo_enter_66 (by decide) rfl rfl ?_
    refine mw_iload_n C 2 d_Bo_enter_69 rfl rfl ?_
    refine mw_run0i C (ix0 _ _) (mw_invS C (m_Wl_payeeOf l D cA t ht _) (ix0 _ _) kb_Bo_34 ws_Wl_payeeOf d_Bo_enter_70 rfl rfl (Nat.le_of_ble_eq_true rfl) rfl rfl ⟨by decide, by decide⟩ ⟨Nat.zero_le _, Nat.zero_le _⟩) (fun x70 e70 => ?_)
    subst e70
    refine mw_dup2_11 C d_Bo_enter_73 rfl rfl ?_
    refine mw_ialdN C d_Bo_enter_74 (by decide) rfl (by omega) (by decide) ?_
    refine mw_eqi (show _ = nI (if t % 10 = t % 1000 / 10 then bal (t % 1000 / 10) - t / 1000 else bal (t % 10)) from by
      show upd (S.1 2) (t % 1000 / 10) (nI (bal (t % 1000 / 10) - t / 1000)) (t % 10) = _
      unfold upd
      by_cases e0 : t % 10 = t % 1000 / 10
      · rw [if_pos e0, if_pos e0]
      · rw [if_neg e0, if_neg e0]; exact (hb _ hg).1) ?_
    refine mw_iload_n C 3 d_Bo_enter_75 rfl rfl ?_
    refine mw_iaddN C d_Bo_enter_76 ?_
    refine mw_iastN C rfl d_Bo_enter_77 (by decide) rfl (by omega) (by decide) ?_
    refine mw_vret C hR d_Bo_enter_78 ?_
    refine ⟨rfl, rfl, rfl, fun j hj => ?_⟩
    show upd (upd (S.1 2) (t % 1000 / 10) (nI (bal (t % 1000 / 10) - t / 1000))) (t % 10) (nI ((if t % 10 = t % 1000 / 10 then bal (t % 1000 / 10) - t / 1000 else bal (t % 10)) + t / 1000)) j = _
    unfold bo_bal
    rw [if_pos (c := t / 1000 ≤ bal (t % 1000 / 10)) h49]
    unfold upd
    by_cases e0 : j = t % 10
    · rw [if_pos e0, if_pos e0]
    · rw [if_neg e0, if_neg e0]
      by_cases e1 : j = t % 1000 / 10
      · rw [if_pos e1, if_pos e1]
      · rw [if_neg e1, if_neg e1]; exact (hb j hj).1
