/-! the node's methods: the order -/
theorem make_bal (ρ : aS) (node : Nat) {t j : Nat} (ht : a_tok t) (hj : j < 4) : (a_make ρ node t).1 18 (4 * node + j) = bo_bal (fun i => ρ.1 18 (4 * node + i)) t j := by
  obtain ⟨t1, t2, t3⟩ := ht
  have e : t / 10 % 10 = t % 1000 / 10 := by omega
  unfold a_make bo_bal
  rw [e]
  dsimp only
  by_cases h0 : t = 0
  · subst h0
    rw [if_pos (Or.inl rfl), if_pos (Nat.zero_le _)]
    by_cases e1 : j = 0
    · subst e1
      rfl
    · rw [if_neg (by omega), if_neg (by omega)]
  · by_cases h1 : ρ.1 18 (4 * node + t % 1000 / 10) < t / 1000
    · rw [if_pos (Or.inr h1), if_neg (by omega)]
    · rw [if_neg (by omega), if_pos (by omega), a_up_at]
      by_cases e1 : j = t % 10
      · rw [if_pos ⟨rfl, by omega⟩, if_pos e1, a_up_at]
        by_cases e2 : t % 10 = t % 1000 / 10
        · rw [if_pos ⟨rfl, by omega⟩, if_pos e2]
        · rw [if_neg (fun h => by omega), if_neg e2]
      · rw [if_neg (fun h => by omega), if_neg e1, a_up_at]
        by_cases e2 : j = t % 1000 / 10
        · rw [if_pos ⟨rfl, by omega⟩, if_pos e2]
        · rw [if_neg (fun h => by omega), if_neg e2]
theorem nR_ord {cn : Int32} {fy node : Nat} {σ : aS} {S S1 : mw_S} {q t : Nat} (h : nR cn fy node σ S) (hq : q < 48) (ht : a_tok t) (e1 : S1.1 0 3 = nI (σ.1 17 node + 1)) (e2 : S1.2 0 2 = S.2 5 2 ||| lN (2 ^ q)) (e3 : S1.1 1 = upd (S.1 6) (σ.1 17 node) (nI q)) (e4 : ∀ j, j < 4 → S1.1 2 j = nI (bo_bal (fun i => σ.1 18 (4 * node + i)) t j)) : nR cn fy node (a_make (a_up (a_up (a_up σ 10 (48 * node + q) 1) 11 (48 * node + σ.1 17 node) q) 17 node (σ.1 17 node + 1)) node t) (mw_mg S [5, 6, 7] S1) := by
  have mk := a_make_kp (a_up (a_up (a_up σ 10 (48 * node + q) 1) 11 (48 * node + σ.1 17 node) q) 17 node (σ.1 17 node + 1)) node t
  have mb := fun j hj => make_bal (a_up (a_up (a_up σ 10 (48 * node + q) 1) 11 (48 * node + σ.1 17 node) q) 17 node (σ.1 17 node + 1)) node (t := t) (j := j) ht hj
  generalize a_make (a_up (a_up (a_up σ 10 (48 * node + q) 1) 11 (48 * node + σ.1 17 node) q) 17 node (σ.1 17 node + 1)) node t = τ at *
  have k : ∀ f j, f ≠ 10 → f ≠ 11 → f ≠ 17 → f ≠ 18 → τ.1 f j = σ.1 f j := fun f j a b c d => by rw [mk.1 f j d, a_up_f _ _ _ _ c, a_up_f _ _ _ _ b, a_up_f _ _ _ _ a]
  have k0 := fun j => k 0 j (by decide) (by decide) (by decide) (by decide)
  have k20 := fun j => k 20 j (by decide) (by decide) (by decide) (by decide)
  have kr : ∀ so i, a_row τ node so i = a_row σ node so i := fun so i => a_row_eq node so i (fun j => k 1 j (by decide) (by decide) (by decide) (by decide)) (fun j => k 2 j (by decide) (by decide) (by decide) (by decide)) (fun j => k 8 j (by decide) (by decide) (by decide) (by decide)) (fun j => k 9 j (by decide) (by decide) (by decide) (by decide)) (by rw [mk.2]; rfl)
  have ks : ∀ f, f ≠ 10 → f ≠ 11 → f ≠ 17 → f ≠ 18 → a_setF τ f node 48 = a_setF σ f node 48 := fun f a b c d => a_setF_eq (fun i _ => k f _ a b c d)
  have h17 : τ.1 17 node = σ.1 17 node + 1 := by rw [mk.1 17 _ (by decide), a_up_s]
  exact (nR_mk (h.se) (h.co) (by rw [ks 6 (by decide) (by decide) (by decide) (by decide)]; exact h.ec) (by rw [ks 7 (by decide) (by decide) (by decide) (by decide)]; exact h.rd) (by rw [k 14 _ (by decide) (by decide) (by decide) (by decide)]; exact h.ow) (by rw [k 16 _ (by decide) (by decide) (by decide) (by decide)]; exact h.cm) (by rw [k 15 _ (by decide) (by decide) (by decide) (by decide)]; exact h.lw) (by rw [ks 9 (by decide) (by decide) (by decide) (by decide)]; exact h.ad) (fun i hi => by rw [k 8 _ (by decide) (by decide) (by decide) (by decide)]; exact h.ac i hi) (fun i hi => by rw [kr]; exact h.pa i hi) (fun i hi => by rw [kr]; exact h.sp i hi) (by
      show S1.2 0 2 = _
      rw [e2, h.en, ← a_setF_up _ _ _ hq]
      refine (a_setF_eq (fun i _ => ?_)).symm
      rw [mk.1 10 _ (by decide), a_up_f _ _ _ _ (by decide), a_up_f _ _ _ _ (by decide)]) (by rw [h17]; exact e1) (fun i hi => by
      rw [h17] at hi
      show S1.1 1 i = _
      rw [e3, mk.1 11 _ (by decide), a_up_f _ _ _ _ (by decide), a_up_at]
      unfold upd
      by_cases e : i = σ.1 17 node
      · rw [if_pos e, if_pos ⟨rfl, by omega⟩]
      · rw [if_neg e, if_neg (fun hh => by omega), a_up_f _ _ _ _ (by decide)]
        exact h.od i (by omega)) (fun j hj => by
      show S1.1 2 j = _
      rw [e4 j hj, mb j hj]
      rfl) (by rw [k20]; exact h.qc) (fun i hi => by rw [k20] at hi; rw [k 19 _ (by decide) (by decide) (by decide) (by decide)]; exact h.qu i hi) (fun j hj => by rw [k 12 _ (by decide) (by decide) (by decide) (by decide)]; exact h.ev j hj) (fun j hj => by rw [k 13 _ (by decide) (by decide) (by decide) (by decide)]; exact h.rv j hj) (by rw [k0]; exact h.vn) (fun v hv => by rw [k 1 _ (by decide) (by decide) (by decide) (by decide)]; exact h.vp v hv) (fun v hv => by rw [k 2 _ (by decide) (by decide) (by decide) (by decide)]; exact h.vs v hv) (fun v hv => by rw [show τ.2.1 = σ.2.1 from by rw [mk.2]; rfl]; exact h.vw v hv) (fun v hv => by rw [k 4 _ (by decide) (by decide) (by decide) (by decide)]; exact h.vt v hv) (h.si) (by rw [k0]; exact h.mc) (fun i hi => by rw [k0] at hi; rw [k 5 _ (by decide) (by decide) (by decide) (by decide)]; exact h.mw i hi))
theorem a_ordL_10 (node : Nat) (all : Int64) (σ : aS) : ∀ n p, n ≤ p → (a_ordL node all n σ).1 10 (48 * node + p) = σ.1 10 (48 * node + p)
  | 0, _, _ => rfl
  | n + 1, p, hp => by
    rw [a_ordL, a_ordS]
    split
    · rw [(a_make_kp _ _ _).1 10 _ (by decide), a_up_f _ _ _ _ (by decide), a_up_f _ _ _ _ (by decide), a_up_j _ _ _ _ (by omega)]
      exact a_ordL_10 node all σ n p (by omega)
    · exact a_ordL_10 node all σ n p (by omega)
set_option maxHeartbeats 4000000 in
set_option maxRecDepth 100000 in
theorem m_No_orderFrom (l : Launch) (D : va_G) (cA : Nat → ClassId) (cn : Int32) (σ : aS) (fy B node le : Nat) (S : mw_S) (h : nR cn fy node σ S) (hI : aI fy B σ) (hg : a_gi σ node) (hn : node < 4) (hl : le < 48) (h9 : ¬ σ.1 9 (48 * node + le) = 0) : mw_M true l lw_tbl y_No_orderFrom b_No_orderFrom 5 none { frames := 2, cells := 0, slots := 0, locals := 43 } D vCl cA sh_No 22 [.inr (.inr 0), .inl (nI le)] (S) (mw_Pv (fun S' => nR cn fy node (a_ordB σ node le) S' ∧ S'.1 14 = S.1 14)) := by
  refine mw_M_of (by decide) (Nat.le_of_ble_eq_true rfl) ?_
  intro p e s m args below meth c A ad C hR
  have eall : a_row σ node false le ||| lN (2 ^ le) = a_below σ node false 48 (lN (2 ^ le)) := by
    rw [bl_bit_row hg hl h9 false]
    apply lb_ext
    intro i _
    rw [lb_or, lb_or, Bool.or_comm]
  have L : ∀ (dd i : Nat) (S1 : mw_S), i + dd = 48 → nR cn fy node (a_ordL node (a_below σ node false 48 (lN (2 ^ le))) i σ) S1 → S1.1 14 = S.1 14 → mw p l e { frames := 2, cells := 0, slots := 0, locals := 43 } s m args below meth c (MQ below (mw_Qc true D vCl cA ad sh_No 22 s.heap.size (S) (mw_Pv (fun S' => nR cn fy node (a_ordB σ node le) S' ∧ S'.1 14 = S.1 14))) args s 0 0 A) 0 0 D vCl cA A ad sh_No 22 5 (30) ([(4, .inl (nI i)), (2, .inr (.inl (a_below σ node false 48 (lN (2 ^ le)) &&& (a_setF σ 10 node 48 ^^^ (-1))))), (0, .inr (.inr 0))]) ([]) (S1) := by
    intro dd
    induction dd with
    | zero =>
      intro i S1 hi h h14
      obtain rfl : i = 48 := by omega
      refine mw_iload C d_No_orderFrom_30 rfl ?_
      refine mw_bipush C (v := nI 48) d_No_orderFrom_32 (by decide) ?_
      refine mw_icmp_geN C 79 d_No_orderFrom_34 (by decide) (by omega) (by omega) (fun h34 => ?_) (fun h34 => ?_)
      ·
        refine mw_vret C hR d_No_orderFrom_79 ?_
        exact ⟨h, h14⟩
      · exfalso; omega
    | succ dd ih =>
      intro i S1 hi h h14
      have hI2 := aI_ordL hI (a_below σ node false 48 (lN (2 ^ le))) hn i (by omega)
      have h72 := hI2.v72
      have hal := (hI2.ac node i hn (by omega)).1
      have e10 := a_ordL_10 node (a_below σ node false 48 (lN (2 ^ le))) σ i i (Nat.le_refl _)
      have elb : lb (a_below σ node false 48 (lN (2 ^ le)) &&& (a_setF σ 10 node 48 ^^^ (-1))) i = (lb (a_below σ node false 48 (lN (2 ^ le))) i && decide (σ.1 10 (48 * node + i) = 0)) := by
        rw [lb_and, lb_not _ (by omega), lb_set (by omega), Bool.not_not]
      refine mw_iload C d_No_orderFrom_30 rfl ?_
      refine mw_bipush C (v := nI 48) d_No_orderFrom_32 (by decide) ?_
      refine mw_icmp_geN C 79 d_No_orderFrom_34 (by decide) (by omega) (by omega) (fun h34 => ?_) (fun h34 => ?_)
      · exfalso; omega
      ·
        refine mw_lload_n C 2 d_No_orderFrom_37 rfl rfl ?_
        refine mw_iload C d_No_orderFrom_38 rfl ?_
        refine mw_run0i C (ix0 _ _) (mw_invS C (m_Wl_contains l D cA _ i (by omega) _) (ix0 _ _) kb_No_76 ws_Wl_contains d_No_orderFrom_40 rfl rfl (Nat.le_of_ble_eq_true rfl) rfl rfl ⟨by decide, by decide⟩ ⟨Nat.zero_le _, Nat.zero_le _⟩) (fun x40 e40 => ?_)
        subst e40
        by_cases hc : lb (a_below σ node false 48 (lN (2 ^ le))) i = true ∧ σ.1 10 (48 * node + i) = 0
        ·
          refine mw_eqi (show _ = nI 1 from by rw [elb, hc.1, decide_eq_true hc.2]; rfl) ?_
          refine mw_if_eqN C 73 d_No_orderFrom_43 (by decide) (by omega) (fun h43 => ?_) (fun h43 => ?_)
          · exfalso; omega
          ·
            have ht := hI2.tr ((a_ordL node (a_below σ node false 48 (lN (2 ^ le))) i σ).1 8 (48 * node + i))
            have hoc := hI2.oc node hn
            have hps := a_c0_pos (g := fun q => (a_ordL node (a_below σ node false 48 (lN (2 ^ le))) i σ).1 10 (48 * node + q)) (j := i) (n := 48) (e10.trans hc.2) (by omega)
            refine mw_aload_n C 0 d_No_orderFrom_46 rfl rfl ?_
            refine mw_getr C f_No_12 d_No_orderFrom_47 (by decide) rfl rfl ?_
            refine mw_iload C d_No_orderFrom_50 rfl ?_
            refine mw_aload_n C 0 d_No_orderFrom_52 rfl rfl ?_
            refine mw_getr C f_No_46 d_No_orderFrom_53 (by decide) rfl rfl ?_
            refine mw_getr C f_No_174 d_No_orderFrom_56 (by decide) rfl rfl ?_
            refine mw_aload_n C 0 d_No_orderFrom_59 rfl rfl ?_
            refine mw_getr C f_No_59 d_No_orderFrom_60 (by decide) rfl rfl ?_
            refine mw_getr C f_No_98 d_No_orderFrom_63 (by decide) rfl rfl ?_
            refine mw_iload C d_No_orderFrom_66 rfl ?_
            refine mw_ialdN C d_No_orderFrom_68 (by decide) rfl (by omega) (by decide) ?_
            refine mw_eqi (h.ac i (by omega)) ?_
            refine mw_ialdN C d_No_orderFrom_69 (by decide) rfl (by omega) (by decide) ?_
            refine mw_eqi (h.vt _ (by omega)) ?_
            refine mw_runv C ix_Bo_No rfl (mw_invV C (kk := 0) (m_Bo_enter l D cA i _ ((a_ordL node (a_below σ node false 48 (lN (2 ^ le))) i σ).1 17 node) (fun j => (a_ordL node (a_below σ node false 48 (lN (2 ^ le))) i σ).1 18 (4 * node + j)) _ (by omega) (by have := ht.1; omega) ht.2.2 ht.2.1 (by omega) h.oc (fun j hj => ⟨h.ba j hj, by have := hI2.b400 hn hj; show (a_ordL node (a_below σ node false 48 (lN (2 ^ le))) i σ).1 18 (4 * node + j) < 2 ^ 20; omega⟩)) ix_Bo_No kb_No_177 wm_Bo_enter wv_Bo_enter (by decide) rfl rfl d_No_orderFrom_70 rfl rfl (Nat.le_of_ble_eq_true rfl) rfl rfl ⟨by decide, by decide⟩ ⟨Nat.zero_le _, Nat.zero_le _⟩) (fun S70 e70 => ?_)
            obtain ⟨b1, b2, b3, b4⟩ := e70
            refine mw_iincN C d_No_orderFrom_73 rfl (by decide) ?_
            refine mw_goto C 30 d_No_orderFrom_76 (by decide) ?_
            refine mw_to _ (by exact And.intro rfl (And.intro rfl (And.intro rfl (trivial)))) (ih (i + 1) _ (by omega) ?_ h14)
            rw [a_ordL, a_ordS, if_pos ⟨hc.1, e10.trans hc.2⟩]
            exact nR_ord h (by omega) ht b1 b2 b3 b4
        ·
          refine mw_eqi (show _ = nI 0 from by
            rw [elb]
            cases hb : lb (a_below σ node false 48 (lN (2 ^ le))) i
            · rfl
            · rw [decide_eq_false (fun h0 => hc ⟨hb, h0⟩)]
              rfl) ?_
          refine mw_if_eqN C 73 d_No_orderFrom_43 (by decide) (by omega) (fun h43 => ?_) (fun h43 => ?_)
          ·
            refine mw_iincN C d_No_orderFrom_73 rfl (by decide) ?_
            refine mw_goto C 30 d_No_orderFrom_76 (by decide) ?_
            refine mw_to _ (by exact And.intro rfl (And.intro rfl (And.intro rfl (trivial)))) (ih (i + 1) _ (by omega) ?_ h14)
            rw [a_ordL, a_ordS, if_neg (fun hh => hc ⟨hh.1, e10.symm.trans hh.2⟩)]
            exact h
          · exfalso; omega
  refine mw_aload_n C 0 d_No_orderFrom_0 rfl rfl ?_
  refine mw_getr C f_No_59 d_No_orderFrom_1 (by decide) rfl rfl ?_
  refine mw_getr C f_No_165 d_No_orderFrom_4 (by decide) rfl rfl ?_
  refine mw_iload_n C 1 d_No_orderFrom_7 rfl rfl ?_
  refine mw_laldN C d_No_orderFrom_8 (by decide) rfl (by omega) (by decide) ?_
  refine mw_eql (h.pa le hl) ?_
  refine mw_iload_n C 1 d_No_orderFrom_9 rfl rfl ?_
  refine mw_run0l C (ix0 _ _) (mw_invS C (m_Wl_bitOf l D cA le (by omega) _) (ix0 _ _) kb_No_80 ws_Wl_bitOf d_No_orderFrom_10 rfl rfl (Nat.le_of_ble_eq_true rfl) rfl rfl ⟨by decide, by decide⟩ ⟨Nat.zero_le _, Nat.zero_le _⟩) (fun x10 e10 => ?_)
  subst e10
  refine mw_lor C d_No_orderFrom_13 ?_
  refine mw_eql eall ?_
  refine mw_aload_n C 0 d_No_orderFrom_14 rfl rfl ?_
  refine mw_getr C f_No_12 d_No_orderFrom_15 (by decide) rfl rfl ?_
  refine mw_getl C f_No_169 d_No_orderFrom_18 (by decide) rfl rfl ?_
  refine mw_eql (show _ = a_setF σ 10 node 48 from h.en) ?_
  refine mw_ldc2 C kc_No_172 d_No_orderFrom_21 ?_
  refine mw_lxor C d_No_orderFrom_24 ?_
  refine mw_land C d_No_orderFrom_25 ?_
  refine mw_lstore_n C 2 d_No_orderFrom_26 rfl (by decide) ?_
  refine mw_iconst C (v := nI 0) d_No_orderFrom_27 (by decide) ?_
  refine mw_istore C d_No_orderFrom_28 (by decide) ?_
  exact mw_to _ (by exact And.intro rfl (And.intro rfl (And.intro rfl (trivial)))) (L 48 0 S rfl h rfl)
theorem a_gi_ord {σ : aS} {node : Nat} (hg : a_gi σ node) (place : Nat) : a_gi (a_ordB σ node place) node := a_gi_kp hg (a_ordL_kp node _ σ 48) (by unfold a_G; decide)
theorem nR_21 {cn : Int32} {fy node : Nat} {σ : aS} {S : mw_S} (h : nR cn fy node σ S) (j x i : Nat) (y : Int32) : nR cn fy node (a_up σ 21 j x) (mw_uI S 14 i y) := (nR_mk (h.se) (h.co) (by rw [a_setF_ne _ (by decide)]; exact h.ec) (by rw [a_setF_ne _ (by decide)]; exact h.rd) (h.ow) (h.cm) (h.lw) (by rw [a_setF_ne _ (by decide)]; exact h.ad) (h.ac) (fun q hq => by rw [a_row_up _ _ _ _ (by decide)]; exact h.pa q hq) (fun q hq => by rw [a_row_up _ _ _ _ (by decide)]; exact h.sp q hq) (by rw [a_setF_ne _ (by decide)]; exact h.en) (h.oc) (h.od) (h.ba) (h.qc) (h.qu) (h.ev) (h.rv) (h.vn) (h.vp) (h.vs) (h.vw) (h.vt) (h.si) (h.mc) (h.mw))
theorem nR_16 {cn : Int32} {fy node : Nat} {σ : aS} {S : mw_S} (h : nR cn fy node σ S) (w : Nat) : nR cn fy node (a_up σ 16 node w) (mw_uI S 0 13 (nI w)) := (nR_mk (h.se) (h.co) (by rw [a_setF_ne _ (by decide)]; exact h.ec) (by rw [a_setF_ne _ (by decide)]; exact h.rd) (h.ow) (by rw [a_up_s]; rfl) (h.lw) (by rw [a_setF_ne _ (by decide)]; exact h.ad) (h.ac) (fun q hq => by rw [a_row_up _ _ _ _ (by decide)]; exact h.pa q hq) (fun q hq => by rw [a_row_up _ _ _ _ (by decide)]; exact h.sp q hq) (by rw [a_setF_ne _ (by decide)]; exact h.en) (h.oc) (h.od) (h.ba) (h.qc) (h.qu) (h.ev) (h.rv) (h.vn) (h.vp) (h.vs) (h.vw) (h.vt) (h.si) (h.mc) (h.mw))
theorem a_lead_ge (cn : Int32) (w : Nat) : 16 * (w - 1) ≤ a_lead cn w ∧ a_lead cn w < 16 * (w - 1) + 4 := by
  unfold a_lead
  have := Nat.mod_lt (cn.toBitVec.toNat / 2 ^ (2 * (w - 1))) (show 0 < 4 from by decide)
  omega
set_option maxHeartbeats 4000000 in
set_option maxRecDepth 100000 in
theorem m_No_commit (l : Launch) (D : va_G) (cA : Nat → ClassId) (cn : Int32) (σ : aS) (fy B node w0 : Nat) (S : mw_S) (h : nR cn fy node σ S) (hI : aI fy B σ) (hg : a_gi σ node) (hn : node < 4) (hw1 : 1 ≤ w0) (hw3 : w0 ≤ 3) (hL9 : ¬ σ.1 9 (48 * node + a_lead cn w0) = 0) (Z : aS) (hfin : a_fin node w0 (a_chain cn node (σ.1 16 node) (w0 - 1 - σ.1 16 node) 1 (a_up σ 21 0 (a_lead cn w0))) = Z) : mw_M true l lw_tbl y_No_commit b_No_commit 5 none { frames := 3, cells := 0, slots := 0, locals := 67 } D vCl cA sh_No 22 [.inr (.inr 0), .inl (nI w0)] (S) (mw_Pv (fun S' => nR cn fy node Z S')) := by
  refine mw_M_of (by decide) (Nat.le_of_ble_eq_true rfl) ?_
  intro p e s m args below meth c A ad C hR
  have L3 : ∀ (i : Nat) (τ : aS) (S1 : mw_S), i < 3 → nR cn fy node τ S1 → aI fy B τ → a_gi τ node → (∀ j, j ≤ i → S1.1 14 j = nI (τ.1 21 j) ∧ τ.1 21 j < 48 ∧ ¬ τ.1 9 (48 * node + τ.1 21 j) = 0) → a_ordAll node (i + 1) τ = Z → mw p l e { frames := 3, cells := 0, slots := 0, locals := 67 } s m args below meth c (MQ below (mw_Qc true D vCl cA ad sh_No 22 s.heap.size (S) (mw_Pv (fun S' => nR cn fy node Z S'))) args s 0 0 A) 0 0 D vCl cA A ad sh_No 22 5 (78) ([(3, .inl (nI i)), (0, .inr (.inr 0))]) ([]) (S1) := by
    intro i
    induction i with
    | zero =>
      intro τ S1 hi h hI hg hl he
      obtain ⟨l1, l2, l3⟩ := hl 0 (Nat.le_refl _)
      refine mw_iload_n C 3 d_No_commit_78 rfl rfl ?_
      refine mw_if_ltN C 98 d_No_commit_79 (by decide) (by omega) ?_
      refine mw_aload_n C 0 d_No_commit_82 rfl rfl ?_
      refine mw_aload_n C 0 d_No_commit_83 rfl rfl ?_
      refine mw_getr C f_No_35 d_No_commit_84 (by decide) rfl rfl ?_
      refine mw_iload_n C 3 d_No_commit_87 rfl rfl ?_
      refine mw_ialdN C d_No_commit_88 (by decide) rfl (by omega) (by decide) ?_
      refine mw_eqi l1 ?_
      refine mw_runv C ix_No_No rfl (mw_invV C (kk := 0) (m_No_orderFrom l D cA cn τ fy B node _ _ (nR_rs h) hI hg hn l2 l3) ix_No_No kb_No_162 wm_No_orderFrom wv_No_orderFrom (by decide) rfl rfl d_No_commit_89 rfl rfl (Nat.le_of_ble_eq_true rfl) rfl rfl ⟨by decide, by decide⟩ ⟨Nat.zero_le _, Nat.zero_le _⟩) (fun S89 e89 => ?_)
      refine mw_iinc C d_No_commit_92 rfl rfl (by decide) ?_
      refine mw_goto C 78 d_No_commit_95 (by decide) ?_
      refine mw_iload_n C 3 d_No_commit_78 rfl rfl ?_
      refine mw_if_lt C 98 d_No_commit_79 (by decide) (fun _ => ?_) (fun h9 => absurd (by decide) h9)
      refine mw_vret C hR d_No_commit_98 ?_
      rw [← he]
      exact nR_mg e89.1
    | succ i ih =>
      intro τ S1 hi h hI hg hl he
      obtain ⟨l1, l2, l3⟩ := hl (i + 1) (Nat.le_refl _)
      refine mw_iload_n C 3 d_No_commit_78 rfl rfl ?_
      refine mw_if_ltN C 98 d_No_commit_79 (by decide) (by omega) ?_
      refine mw_aload_n C 0 d_No_commit_82 rfl rfl ?_
      refine mw_aload_n C 0 d_No_commit_83 rfl rfl ?_
      refine mw_getr C f_No_35 d_No_commit_84 (by decide) rfl rfl ?_
      refine mw_iload_n C 3 d_No_commit_87 rfl rfl ?_
      refine mw_ialdN C d_No_commit_88 (by decide) rfl (by omega) (by decide) ?_
      refine mw_eqi l1 ?_
      refine mw_runv C ix_No_No rfl (mw_invV C (kk := 0) (m_No_orderFrom l D cA cn τ fy B node _ _ (nR_rs h) hI hg hn l2 l3) ix_No_No kb_No_162 wm_No_orderFrom wv_No_orderFrom (by decide) rfl rfl d_No_commit_89 rfl rfl (Nat.le_of_ble_eq_true rfl) rfl rfl ⟨by decide, by decide⟩ ⟨Nat.zero_le _, Nat.zero_le _⟩) (fun S89 e89 => ?_)
      refine mw_idecN C d_No_commit_92 rfl (by decide) ?_
      refine mw_goto C 78 d_No_commit_95 (by decide) ?_
      refine mw_to _ (by exact And.intro rfl (And.intro rfl (trivial))) (ih _ _ (by omega) (nR_mg e89.1) (aI_ordB hI _ hn) (a_gi_ord hg _) (fun j hj => ?_) he)
      obtain ⟨m1, m2, m3⟩ := hl j (by omega)
      have k21 : (a_ordB τ node (τ.1 21 (i + 1))).1 21 j = τ.1 21 j := (a_ordL_kp node _ τ 48).1 21 j (by unfold a_G; decide)
      rw [k21]
      refine ⟨?_, m2, ?_⟩
      · show S89.1 14 j = _
        rw [e89.2]
        exact m1
      · rw [show (a_ordB τ node (τ.1 21 (i + 1))).1 9 (48 * node + τ.1 21 j) = τ.1 9 (48 * node + τ.1 21 j) from (a_ordL_kp node _ τ 48).1 9 _ (by unfold a_G; decide)]
        exact m3
  have L2 : ∀ (d len k : Nat) (τ : aS) (S1 : mw_S), (d = 0 ∧ k ≤ σ.1 16 node) ∨ (0 < d ∧ k = σ.1 16 node + d) → k ≤ 2 → 1 ≤ len → len + d ≤ 3 → nR cn fy node τ S1 → aI fy B τ → a_gi τ node → τ.1 16 node = σ.1 16 node → (∀ j, j < len → S1.1 14 j = nI (τ.1 21 j) ∧ τ.1 21 j < 48 ∧ ¬ τ.1 9 (48 * node + τ.1 21 j) = 0) → 16 * k ≤ τ.1 21 (len - 1) → a_fin node w0 (a_chain cn node (σ.1 16 node) d len τ) = Z → mw p l e { frames := 3, cells := 0, slots := 0, locals := 67 } s m args below meth c (MQ below (mw_Qc true D vCl cA ad sh_No 22 s.heap.size (S) (mw_Pv (fun S' => nR cn fy node Z S'))) args s 0 0 A) 0 0 D vCl cA A ad sh_No 22 5 (17) ([(3, .inl (nI k)), (2, .inl (nI len)), (0, .inr (.inr 0)), (1, .inl (nI w0))]) ([]) (S1) := by
    intro d
    induction d with
    | zero =>
      intro len k τ S1 hk hk2 hl hl3 h hI hg hc hls hge he
      have hc3 := hI.cm node
      refine mw_iload_n C 3 d_No_commit_17 rfl rfl ?_
      refine mw_aload_n C 0 d_No_commit_18 rfl rfl ?_
      refine mw_geti C f_No_155 d_No_commit_19 (by decide) rfl rfl ?_
      refine mw_eqi h.cm ?_
      refine mw_icmp_leN C 69 d_No_commit_22 (by decide) (by omega) (by omega) (fun h22 => ?_) (fun h22 => ?_)
      ·
        refine mw_aload_n C 0 d_No_commit_69 rfl rfl ?_
        refine mw_iload_n C 1 d_No_commit_70 rfl rfl ?_
        refine mw_puti C rfl f_No_155 p_No_13 d_No_commit_71 (by decide) rfl rfl ?_
        refine mw_iload_n C 2 d_No_commit_74 rfl rfl ?_
        refine mw_iconst C (v := nI 1) d_No_commit_75 (by decide) ?_
        refine mw_isubN C d_No_commit_76 (by omega) ?_
        refine mw_istore_n C 3 d_No_commit_77 rfl (by decide) ?_
        refine mw_to _ (by exact And.intro rfl (And.intro rfl (trivial))) (L3 (len - 1) _ _ (by omega) (nR_16 h w0) (aI_16 hI _ hw3) hg (fun j hj => hls j (by omega)) ?_)
        rw [show len - 1 + 1 = len from by omega]
        exact he
      · exfalso; omega
    | succ d ih =>
      intro len k τ S1 hk hk2 hl hl3 h hI hg hc hls hge he
      obtain rfl : k = σ.1 16 node + d + 1 := by omega
      have hc3 := hI.cm node
      have hLg := a_lead_ge cn (σ.1 16 node + d + 1)
      obtain ⟨l1, l2, l3⟩ := hls (len - 1) (by omega)
      refine mw_iload_n C 3 d_No_commit_17 rfl rfl ?_
      refine mw_aload_n C 0 d_No_commit_18 rfl rfl ?_
      refine mw_geti C f_No_155 d_No_commit_19 (by decide) rfl rfl ?_
      refine mw_eqi h.cm ?_
      refine mw_icmp_leN C 69 d_No_commit_22 (by decide) (by omega) (by omega) (fun h22 => ?_) (fun h22 => ?_)
      · exfalso; omega
      ·
        refine mw_aload_n C 0 d_No_commit_25 rfl rfl ?_
        refine mw_iload_n C 3 d_No_commit_26 rfl rfl ?_
        refine mw_run0i C ix_No_No (mw_invV C (kk := 0) (m_No_leaderOf l D cA cn (σ.1 16 node + d + 1) _ h.co (by omega) (by omega)) ix_No_No kb_No_146 wm_No_leaderOf wv_No_leaderOf (by decide) rfl rfl d_No_commit_27 rfl rfl (Nat.le_of_ble_eq_true rfl) rfl rfl ⟨by decide, by decide⟩ ⟨Nat.zero_le _, Nat.zero_le _⟩) (fun x27 e27 => ?_)
        subst e27
        refine mw_istore C d_No_commit_30 (by decide) ?_
        refine mw_aload_n C 0 d_No_commit_32 rfl rfl ?_
        refine mw_getr C f_No_59 d_No_commit_33 (by decide) rfl rfl ?_
        refine mw_aload_n C 0 d_No_commit_36 rfl rfl ?_
        refine mw_getr C f_No_35 d_No_commit_37 (by decide) rfl rfl ?_
        refine mw_iload_n C 2 d_No_commit_40 rfl rfl ?_
        refine mw_iconst C (v := nI 1) d_No_commit_41 (by decide) ?_
        refine mw_isubN C d_No_commit_42 (by omega) ?_
        refine mw_ialdN C d_No_commit_43 (by decide) rfl (by omega) (by decide) ?_
        refine mw_eqi l1 ?_
        refine mw_iload C d_No_commit_44 rfl ?_
        refine mw_run0i C ix_Gr_No (mw_invV C (kk := 0) (m_Gr_leadsStrongly l D cA (τ.1 21 (len - 1)) (a_lead cn (σ.1 16 node + d + 1)) l2 (by omega) _) ix_Gr_No kb_No_158 wm_Gr_leadsStrongly wv_Gr_leadsStrongly (by decide) rfl rfl d_No_commit_46 rfl rfl (Nat.le_of_ble_eq_true rfl) rfl rfl ⟨by decide, by decide⟩ ⟨Nat.zero_le _, Nat.zero_le _⟩) (fun x46 e46 => ?_)
        subst e46
        have hrow : (mw_rs S1 [1, 2, 3, 4, 15, 16, 17, 18, 19]).2 3 (τ.1 21 (len - 1)) = a_row τ node true (τ.1 21 (len - 1)) := h.sp _ l2
        rw [hrow]
        have hiff : lb (a_below τ node true 48 (lN (2 ^ τ.1 21 (len - 1)))) (a_lead cn (σ.1 16 node + d + 1)) = lb (a_row τ node true (τ.1 21 (len - 1))) (a_lead cn (σ.1 16 node + d + 1)) := by
          rw [bl_bit_row hg l2 l3 true, lb_or, lb_pow (by omega), decide_eq_false (by omega), Bool.false_or]
        by_cases hb : lb (a_row τ node true (τ.1 21 (len - 1))) (a_lead cn (σ.1 16 node + d + 1)) = true
        ·
          refine mw_eqi (show _ = nI 1 from by rw [hb]; rfl) ?_
          have hin : ¬ τ.1 9 (48 * node + a_lead cn (σ.1 16 node + d + 1)) = 0 := by
            have h5 := hb
            rw [a_row, if_neg l3] at h5
            exact (bl_G hg true 48 (Nat.le_refl _) (a_gi_in hg l2 l3 true) _ (by omega) h5).2
          refine mw_if_eqN C 63 d_No_commit_49 (by decide) (by omega) (fun h49 => ?_) (fun h49 => ?_)
          · exfalso; omega
          ·
            refine mw_aload_n C 0 d_No_commit_52 rfl rfl ?_
            refine mw_getr C f_No_35 d_No_commit_53 (by decide) rfl rfl ?_
            refine mw_iload_n C 2 d_No_commit_56 rfl rfl ?_
            refine mw_iload C d_No_commit_57 rfl ?_
            refine mw_iastN C rfl d_No_commit_59 (by decide) rfl (by omega) (by decide) ?_
            refine mw_iincN C d_No_commit_60 rfl (by decide) ?_
            refine mw_idecN C d_No_commit_63 rfl (by decide) ?_
            refine mw_goto C 17 d_No_commit_66 (by decide) ?_
            refine mw_to _ (by exact And.intro rfl (And.intro rfl (And.intro rfl (And.intro rfl (trivial))))) (ih (len + 1) _ _ _ (by omega) (by omega) (by omega) (by omega) (nR_21 h len (a_lead cn (σ.1 16 node + d + 1)) len _) (aI_21 hI _ _) hg hc (fun j hj => ?_) ?_ ?_)
            · show upd (S1.1 14) len (nI (a_lead cn (σ.1 16 node + d + 1))) j = _ ∧ _
              rw [a_up_at]
              unfold upd
              by_cases e : j = len
              · rw [if_pos e, if_pos ⟨rfl, e⟩]
                exact ⟨rfl, by omega, hin⟩
              · rw [if_neg e, if_neg (fun hh => e hh.2)]
                exact hls j (by omega)
            · rw [show len + 1 - 1 = len from by omega, a_up_s]
              omega
            · rw [← he, a_chain, if_pos ⟨by omega, by rw [hiff]; exact hb⟩]
        ·
          refine mw_eqi (show _ = nI 0 from by rw [eq_false_of_ne_true hb]; rfl) ?_
          refine mw_if_eqN C 63 d_No_commit_49 (by decide) (by omega) (fun h49 => ?_) (fun h49 => ?_)
          ·
            refine mw_idecN C d_No_commit_63 rfl (by decide) ?_
            refine mw_goto C 17 d_No_commit_66 (by decide) ?_
            refine mw_to _ (by exact And.intro rfl (And.intro rfl (And.intro rfl (And.intro rfl (trivial))))) (ih len _ τ S1 (by omega) (by omega) hl (by omega) h hI hg hc hls (by omega) ?_)
            rw [← he, a_chain, if_neg (fun hh => hb (by rw [← hiff]; exact hh.2))]
          · exfalso; omega
  have hLg := a_lead_ge cn w0
  have hc3 := hI.cm node
  refine mw_aload_n C 0 d_No_commit_0 rfl rfl ?_
  refine mw_getr C f_No_35 d_No_commit_1 (by decide) rfl rfl ?_
  refine mw_iconst C (v := nI 0) d_No_commit_4 (by decide) ?_
  refine mw_aload_n C 0 d_No_commit_5 rfl rfl ?_
  refine mw_iload_n C 1 d_No_commit_6 rfl rfl ?_
  refine mw_run0i C ix_No_No (mw_invV C (kk := 0) (m_No_leaderOf l D cA cn w0 _ h.co hw1 hw3) ix_No_No kb_No_146 wm_No_leaderOf wv_No_leaderOf (by decide) rfl rfl d_No_commit_7 rfl rfl (Nat.le_of_ble_eq_true rfl) rfl rfl ⟨by decide, by decide⟩ ⟨Nat.zero_le _, Nat.zero_le _⟩) (fun x7 e7 => ?_)
  subst e7
  refine mw_iastN C rfl d_No_commit_10 (by decide) rfl (by omega) (by decide) ?_
  refine mw_iconst C (v := nI 1) d_No_commit_11 (by decide) ?_
  refine mw_istore_n C 2 d_No_commit_12 rfl (by decide) ?_
  refine mw_iload_n C 1 d_No_commit_13 rfl rfl ?_
  refine mw_iconst C (v := nI 1) d_No_commit_14 (by decide) ?_
  refine mw_isubN C d_No_commit_15 (by omega) ?_
  refine mw_istore_n C 3 d_No_commit_16 rfl (by decide) ?_
  refine mw_to _ (by exact And.intro rfl (And.intro rfl (And.intro rfl (And.intro rfl (trivial))))) (L2 (w0 - 1 - σ.1 16 node) 1 (w0 - 1) _ _ (by omega) (by omega) (Nat.le_refl _) (by omega) (nR_21 h 0 (a_lead cn w0) 0 _) (aI_21 hI _ _) hg rfl (fun j hj => ?_) ?_ hfin)
  · obtain rfl : j = 0 := by omega
    rw [a_up_s]
    exact ⟨rfl, by omega, hL9⟩
  · rw [a_up_s]
    omega
