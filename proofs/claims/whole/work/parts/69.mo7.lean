/-! what may be added to a graph -/
theorem lN_pred : ∀ k, k < 64 → lN (2 ^ k) - 1 = lN (2 ^ k - 1) := by decide +kernel
theorem lb_below {k : Nat} (hk : k < 64) {q : Nat} (hq : q < 64) : lb (lN (2 ^ k) - 1) q = decide (q < k) := by
  rw [lN_pred k hk, lb_lN, decide_eq_true hq, Bool.true_and, Nat.testBit_two_pow_sub_one]
theorem a_pt_lt {σ : aS} {v q b : Nat} (hk : σ.1 2 v < 16) (hp : σ.1 1 v = q) (hq : q < 48) (hr : a_right σ v = true) (hb : lb (a_points σ v false) b = true) : b < 4 * (q / 4) := by
  subst hp
  have hb64 : b < 64 := by
    apply Nat.lt_of_not_le
    intro hge
    rw [lb_big _ hge] at hb
    cases hb
  unfold a_points at hb
  rw [if_neg (by decide), lb_or] at hb
  unfold a_right ve_right at hr
  unfold ve_down at hb
  by_cases h0 : σ.1 1 v / 4 = 0
  · rw [if_pos h0] at hr hb
    simp only [Bool.and_eq_true, decide_eq_true_eq] at hr
    rw [hr.2, lb_0] at hb
    cases hb
  · rw [if_neg h0] at hr hb
    simp only [Bool.and_eq_true, decide_eq_true_eq] at hr
    rw [Bool.or_eq_true] at hb
    rcases hb with hb | hb
    · rw [lb_shl (by omega)] at hb
      simp only [Bool.and_eq_true, decide_eq_true_eq] at hb
      have hlt : b - 4 * (σ.1 1 v / 4 - 1) < 4 := by
        apply Nat.lt_of_not_le
        intro hge
        have hpw : 2 ^ 4 ≤ 2 ^ (b - 4 * (σ.1 1 v / 4 - 1)) := Nat.pow_le_pow_right (by decide) hge
        rw [Nat.testBit_lt_two_pow (by omega)] at hb
        exact absurd hb.2.2 (by decide)
      omega
    · have h9 := lb_sub.mp hr.2 b hb64 hb
      rw [lb_below (by omega) hb64] at h9
      have := of_decide_eq_true h9
      omega
theorem lb_graph (σ : aS) (node : Nat) {b : Nat} (hb : b < 64) : ∀ n, n ≤ 64 → lb (a_graphN σ node n) b = (decide (b < n) && !decide (σ.1 9 (48 * node + b) = 0))
  | 0, _ => by rw [a_graphN, lb_0, decide_eq_false (by omega), Bool.false_and]
  | n + 1, hn => by
    rw [a_graphN]
    have ih := lb_graph σ node hb n (by omega)
    by_cases e : b = n
    · subst e
      rw [decide_eq_false (by omega), Bool.false_and] at ih
      rw [decide_eq_true (by omega), Bool.true_and]
      split
      · rename_i h0
        rw [ih, decide_eq_true h0]
        rfl
      · rename_i h0
        rw [lb_or, lb_pow (by omega), decide_eq_true rfl, Bool.or_true, decide_eq_false h0]
        rfl
    · have e1 : decide (b < n + 1) = decide (b < n) := by
        by_cases h : b < n
        · rw [decide_eq_true h, decide_eq_true (by omega)]
        · rw [decide_eq_false h, decide_eq_false (by omega)]
      rw [e1, ← ih]
      split
      · rfl
      · rw [lb_or, lb_pow (by omega), decide_eq_false e, Bool.or_false]
def a_canB (σ : aS) (node : Nat) (g : Int64) (q : Nat) : Bool := decide (0 < σ.1 8 (48 * node + q)) && (decide (σ.1 9 (48 * node + q) = 0) && (a_right σ (σ.1 8 (48 * node + q)) && decide (a_points σ (σ.1 8 (48 * node + q)) false &&& (g ^^^ (-1)) = 0)))
def a_cn (σ : aS) (node q : Nat) : Bool := a_canB σ node (a_graphN σ node 48) q
theorem a_canB_iff (σ : aS) (node : Nat) (g : Int64) (q : Nat) : a_canB σ node g q = true ↔ a_can σ node g q := by
  unfold a_canB a_can
  simp only [Bool.and_eq_true, decide_eq_true_eq]
def a_addL (node : Nat) : Nat → aS → aS
  | 0, σ => σ
  | q + 1, σ => if a_cn (a_addL node q σ) node q = true then a_up (a_addL node q σ) 9 (48 * node + q) 1 else a_addL node q σ
def a_add (σ : aS) (node : Nat) : aS := a_addL node 48 σ
theorem a_add_none {σ : aS} {node : Nat} : ∀ {n : Nat}, (∀ q, q < n → ¬ a_cn σ node q = true) → a_addL node n σ = σ
  | 0, _ => rfl
  | n + 1, h => by
    rw [a_addL, a_add_none (fun q hq => h q (by omega)), if_neg (h n (by omega))]
theorem a_add_ge {σ τ : aS} {node : Nat} {k : Nat} (h : a_addL node k σ = a_addL node k τ) : ∀ d, a_addL node (k + d) σ = a_addL node (k + d) τ
  | 0 => h
  | d + 1 => by
    rw [show k + (d + 1) = (k + d) + 1 from rfl, a_addL, a_addL, a_add_ge h d]
theorem a_add_up {fy B : Nat} {σ : aS} (hI : aI fy B σ) {node q : Nat} (hn : node < 4) (hq : q < 48) (hlt : ∀ i, i < q → ¬ a_cn σ node i = true) (hc : a_cn σ node q = true) : a_add (a_up σ 9 (48 * node + q) 1) node = a_add σ node := by
  have h1 : a_addL node (q + 1) σ = a_up σ 9 (48 * node + q) 1 := by
    rw [a_addL, a_add_none hlt, if_pos hc]
  have h2 : a_addL node (q + 1) (a_up σ 9 (48 * node + q) 1) = a_up σ 9 (48 * node + q) 1 := by
    refine a_add_none (fun i hi hcn => ?_)
    have h3 := (a_canB_iff _ _ _ _).mp hcn
    obtain ⟨c1, c2, c3, c4⟩ := h3
    by_cases e : i = q
    · subst e
      rw [a_up_s] at c2
      exact absurd c2 (by decide)
    · have d1 : 0 < σ.1 8 (48 * node + i) := c1
      have d2 : σ.1 9 (48 * node + i) = 0 := by
        rw [a_up_j _ _ _ _ (by omega)] at c2
        exact c2
      have d3 : a_right σ (σ.1 8 (48 * node + i)) = true := c3
      have d4 : a_points σ (σ.1 8 (48 * node + i)) false &&& ((a_graphN (a_up σ 9 (48 * node + q) 1) node 48) ^^^ (-1)) = 0 := c4
      refine hlt i (by omega) ((a_canB_iff _ _ _ _).mpr ⟨d1, d2, d3, lb_sub.mpr (fun b hb hpt => ?_)⟩)
      have hac := (hI.ac node i hn (by omega)).2 (by omega)
      have hbl := a_pt_lt (hI.st _) hac (by omega) d3 hpt
      have := lb_sub.mp d4 b hb hpt
      rw [lb_graph _ _ hb 48 (by decide)] at this ⊢
      rw [a_up_j _ _ _ _ (by omega)] at this
      exact this
  have := a_add_ge (h2.trans h1.symm) (48 - (q + 1))
  rw [show q + 1 + (48 - (q + 1)) = 48 from by omega] at this
  exact this
theorem aI_9 {fy B : Nat} {σ : aS} (h : aI fy B σ) (j : Nat) : aI fy B (a_up σ 9 j 1) := (aI_mk (h.pl) (h.st) (h.tr) (h.qu) (h.f6) (h.f7) (fun n => by
    rw [a_up_at]
    split
    · exact Nat.le_refl _
    · exact h.f9 n) (h.f10) (h.f15) (h.ac) (h.vo) (h.bl) (h.ow) (h.cm) (h.oc) (h.qd) (h.be) (h.fo) (h.vs) (h.mm) (h.wt))
theorem aI_addL {fy B : Nat} {σ : aS} (hI : aI fy B σ) (node : Nat) : ∀ q, aI fy B (a_addL node q σ)
  | 0 => hI
  | q + 1 => by
    rw [a_addL]
    split
    · exact aI_9 (aI_addL hI node q) _
    · exact aI_addL hI node q
theorem a_add_kp (node : Nat) (σ : aS) : ∀ q, a_kp (fun f => f = 9) σ (a_addL node q σ)
  | 0 => a_kp_r _ _
  | q + 1 => by
    rw [a_addL]
    split
    · exact a_kp_t (a_add_kp node σ q) (a_kp_u (fs := fun f => f = 9) (f := 9) rfl _ _ _)
    · exact a_add_kp node σ q
set_option maxHeartbeats 4000000 in
set_option maxRecDepth 100000 in
theorem m_Mo_addAll (l : Launch) (D : va_G) (cA : Nat → ClassId) (cn fv : Int32) (σ : aS) (fy B node : Nat) (S : mw_S) (h : mR cn fv σ S) (hI : aI fy B σ) (hn : node < 4) : mw_M true l lw_tbl y_Mo_addAll b_Mo_addAll 7 none { frames := 2, cells := 0, slots := 0, locals := 44 } D vCl cA sh_Mo 22 [.inr (.inr 0), .inl (nI node)] (S) (mw_Pv (fun S' => mR cn fv (a_add σ node) S')) := by
  refine mw_M_of (by decide) (Nat.le_of_ble_eq_true rfl) ?_
  intro p e s m args below meth c A ad C hR
  have L : ∀ (d : Nat) (τ : aS) (S1 : mw_S), a_c0 (fun q => τ.1 9 (48 * node + q)) 48 = d → mR cn fv τ S1 → aI fy B τ → a_add τ node = a_add σ node → mw p l e { frames := 2, cells := 0, slots := 0, locals := 44 } s m args below meth c (MQ below (mw_Qc true D vCl cA ad sh_Mo 22 s.heap.size (S) (mw_Pv (fun S' => mR cn fv (a_add σ node) S'))) args s 0 0 A) 0 0 D vCl cA A ad sh_Mo 22 7 (6) ([(0, .inr (.inr 0)), (1, .inl (nI node))]) ([]) (S1) := by
    intro d
    induction d using Nat.strongRecOn with
    | ind d ih =>
      intro τ S1 hd h hI he
      have I : ∀ (ds i : Nat), i + ds = 48 → (∀ q, q < i → ¬ a_cn τ node q = true) → mw p l e { frames := 2, cells := 0, slots := 0, locals := 44 } s m args below meth c (MQ below (mw_Qc true D vCl cA ad sh_Mo 22 s.heap.size (S) (mw_Pv (fun S' => mR cn fv (a_add σ node) S'))) args s 0 0 A) 0 0 D vCl cA A ad sh_Mo 22 7 (17) ([(5, .inl (nI i)), (2, .inl (nI 0)), (3, .inr (.inl (a_graphN τ node 48))), (0, .inr (.inr 0)), (1, .inl (nI node))]) ([]) (S1) := by
        intro ds
        induction ds with
        | zero =>
          intro i hi hno
          obtain rfl : i = 48 := by omega
          refine mw_iload C d_Mo_addAll_17 rfl ?_
          refine mw_bipush C (v := nI 48) d_Mo_addAll_19 (by decide) ?_
          refine mw_icmp_geN C 110 d_Mo_addAll_21 (by decide) (by omega) (by omega) (fun h21 => ?_) (fun h21 => ?_)
          ·
            refine mw_goto C 2 d_Mo_addAll_110 (by decide) ?_
            refine mw_iload_n C 2 d_Mo_addAll_2 rfl rfl ?_
            refine mw_if_eqN C 113 d_Mo_addAll_3 (by decide) (by omega) (fun h3 => ?_) (fun h3 => ?_)
            ·
              refine mw_vret C hR d_Mo_addAll_113 ?_
              rw [← he, a_add, a_add_none hno]
              exact h
            · exfalso; omega
          · exfalso; omega
        | succ ds ih2 =>
          intro i hi hno
          have ha := hI.a80 (n := node) (q := i) hn (by omega)
          have h9i := hI.f9 (48 * node + i)
          have N : ¬ a_cn τ node i = true → mw p l e { frames := 2, cells := 0, slots := 0, locals := 44 } s m args below meth c (MQ below (mw_Qc true D vCl cA ad sh_Mo 22 s.heap.size (S) (mw_Pv (fun S' => mR cn fv (a_add σ node) S'))) args s 0 0 A) 0 0 D vCl cA A ad sh_Mo 22 7 (104) ([(5, .inl (nI i)), (2, .inl (nI 0)), (3, .inr (.inl (a_graphN τ node 48))), (0, .inr (.inr 0)), (1, .inl (nI node))]) ([]) (S1) := by
            intro hc
            refine mw_iincN C d_Mo_addAll_104 rfl (by decide) ?_
            refine mw_goto C 17 d_Mo_addAll_107 (by decide) ?_
            refine mw_to _ (by exact And.intro rfl (And.intro rfl (And.intro rfl (And.intro rfl (And.intro rfl (trivial)))))) (ih2 (i + 1) (by omega) (fun q hq => ?_))
            by_cases e : q = i
            · rw [e]; exact hc
            · exact hno q (by omega)
          refine mw_iload C d_Mo_addAll_17 rfl ?_
          refine mw_bipush C (v := nI 48) d_Mo_addAll_19 (by decide) ?_
          refine mw_icmp_geN C 110 d_Mo_addAll_21 (by decide) (by omega) (by omega) (fun h21 => ?_) (fun h21 => ?_)
          · exfalso; omega
          ·
            refine mw_iload_n C 2 d_Mo_addAll_24 rfl rfl ?_
            refine mw_if_neN C 110 d_Mo_addAll_25 (by decide) (by omega) (fun h25 => ?_) (fun h25 => ?_)
            · exfalso; omega
            ·
              refine mw_aload_n C 0 d_Mo_addAll_28 rfl rfl ?_
              refine mw_getr C f_Mo_33 d_Mo_addAll_29 (by decide) rfl rfl ?_
              refine mw_bipush C (v := nI 48) d_Mo_addAll_32 (by decide) ?_
              refine mw_iload_n C 1 d_Mo_addAll_34 rfl rfl ?_
              refine mw_imulN C d_Mo_addAll_35 ?_
              refine mw_iload C d_Mo_addAll_36 rfl ?_
              refine mw_iaddN C d_Mo_addAll_38 ?_
              refine mo_ald C h d_Mo_addAll_39 (by decide) rfl rfl (by omega) (by decide) ?_
              refine mw_istore C d_Mo_addAll_40 (by decide) ?_
              refine mw_iload C d_Mo_addAll_42 rfl ?_
              refine mw_if_leN C 104 d_Mo_addAll_44 (by decide) (by omega) (fun h44 => ?_) (fun h44 => ?_)
              ·
                exact mw_to _ (by exact And.intro rfl (And.intro rfl (And.intro rfl (And.intro rfl (And.intro rfl (trivial)))))) (N (fun hc => by
                  have := (a_canB_iff _ _ _ _).mp hc
                  have := this.1
                  omega))
              ·
                refine mw_aload_n C 0 d_Mo_addAll_47 rfl rfl ?_
                refine mw_getr C f_Mo_36 d_Mo_addAll_48 (by decide) rfl rfl ?_
                refine mw_bipush C (v := nI 48) d_Mo_addAll_51 (by decide) ?_
                refine mw_iload_n C 1 d_Mo_addAll_53 rfl rfl ?_
                refine mw_imulN C d_Mo_addAll_54 ?_
                refine mw_iload C d_Mo_addAll_55 rfl ?_
                refine mw_iaddN C d_Mo_addAll_57 ?_
                refine mo_zald C h d_Mo_addAll_58 (by decide) rfl rfl (by omega) (by decide) ?_
                refine mw_if_neN C 104 d_Mo_addAll_59 (by decide) (by omega) (fun h59 => ?_) (fun h59 => ?_)
                ·
                  exact mw_to _ (by exact And.intro rfl (And.intro rfl (And.intro rfl (And.intro rfl (And.intro rfl (trivial)))))) (N (fun hc => by
                    have := (a_canB_iff _ _ _ _).mp hc
                    have := this.2.1
                    omega))
                ·
                  refine mw_aload_n C 0 d_Mo_addAll_62 rfl rfl ?_
                  refine mw_iload C d_Mo_addAll_63 rfl ?_
                  refine mw_run0i C ix_Mo (mw_invV C (kk := 0) (m_Mo_isRight l D cA cn fv τ (τ.1 8 (48 * node + i)) _ (mR_rs h) ha (hI.pl _) (hI.st _)) ix_Mo kb_Mo_144 wm_Mo_isRight wv_Mo_isRight (by decide) rfl rfl d_Mo_addAll_65 rfl rfl (Nat.le_of_ble_eq_true rfl) rfl rfl ⟨by decide, by decide⟩ ⟨Nat.zero_le _, Nat.zero_le _⟩) (fun x65 e65 => ?_)
                  subst e65
                  by_cases hr : a_right τ (τ.1 8 (48 * node + i)) = true
                  ·
                    rw [hr]
                    refine mw_eqi (show _ = nI 1 from rfl) ?_
                    refine mw_if_eqN C 104 d_Mo_addAll_68 (by decide) (by omega) (fun h68 => ?_) (fun h68 => ?_)
                    · exfalso; omega
                    ·
                      refine mw_aload_n C 0 d_Mo_addAll_71 rfl rfl ?_
                      refine mw_iload C d_Mo_addAll_72 rfl ?_
                      refine mw_iconst C (v := nI 0) d_Mo_addAll_74 (by decide) ?_
                      refine mw_run0l C ix_Mo (mw_invV C (kk := 0) (m_Mo_points l D cA cn fv τ (τ.1 8 (48 * node + i)) 0 _ (mR_rs h) ha (hI.pl _) (hI.st _) (by decide)) ix_Mo kb_Mo_147 wm_Mo_points wv_Mo_points (by decide) rfl rfl d_Mo_addAll_75 rfl rfl (Nat.le_of_ble_eq_true rfl) rfl rfl ⟨by decide, by decide⟩ ⟨Nat.zero_le _, Nat.zero_le _⟩) (fun x75 e75 => ?_)
                      subst e75
                      refine mw_lload_n C 3 d_Mo_addAll_78 rfl rfl ?_
                      refine mw_ldc2 C kc_Mo_138 d_Mo_addAll_79 ?_
                      refine mw_lxor C d_Mo_addAll_82 ?_
                      refine mw_land C d_Mo_addAll_83 ?_
                      refine mw_lconst C (v := 0) d_Mo_addAll_84 (by decide) ?_
                      refine mw_lcmp C d_Mo_addAll_85 ?_
                      refine mw_if_ne C 104 d_Mo_addAll_86 (by decide) (fun h86 => ?_) (fun h86 => ?_)
                      ·
                        exact mw_to _ (by exact And.intro rfl (And.intro rfl (And.intro rfl (And.intro rfl (And.intro rfl (trivial)))))) (N (fun hc => h86 ((lg_cmp_eq _ _).mpr ((a_canB_iff _ _ _ _).mp hc).2.2.2)))
                      ·
                        have hcn : a_cn τ node i = true := (a_canB_iff _ _ _ _).mpr ⟨by omega, h59, hr, (lg_cmp_eq _ _).mp h86⟩
                        have hup : a_c0 (fun q => (a_up τ 9 (48 * node + i) 1).1 9 (48 * node + q)) 48 + 1 = a_c0 (fun q => τ.1 9 (48 * node + q)) 48 := a_c0_up (g := fun q => τ.1 9 (48 * node + q)) (g' := fun q => (a_up τ 9 (48 * node + i) 1).1 9 (48 * node + q)) (j := i) h59 (by simp only [a_up_s]; decide) (fun j hj => a_up_j _ _ _ _ (by omega)) (by omega)
                        have G : ∀ (S2 : mw_S), mR cn fv (a_up τ 9 (48 * node + i) 1) S2 → mw p l e { frames := 2, cells := 0, slots := 0, locals := 44 } s m args below meth c (MQ below (mw_Qc true D vCl cA ad sh_Mo 22 s.heap.size (S) (mw_Pv (fun S' => mR cn fv (a_add σ node) S'))) args s 0 0 A) 0 0 D vCl cA A ad sh_Mo 22 7 (110) ([(2, .inl (nI 1)), (0, .inr (.inr 0)), (1, .inl (nI node))]) ([]) (S2) := by
                          intro S2 h
                          refine mw_goto C 2 d_Mo_addAll_110 (by decide) ?_
                          refine mw_iload_n C 2 d_Mo_addAll_2 rfl rfl ?_
                          refine mw_if_eqN C 113 d_Mo_addAll_3 (by decide) (by omega) (fun h3 => ?_) (fun h3 => ?_)
                          · exfalso; omega
                          ·
                            refine mw_to _ (by exact And.intro rfl (And.intro rfl (trivial))) (ih _ (by omega) _ S2 rfl h (aI_9 hI _) ?_)
                            rw [← he]
                            exact a_add_up hI hn (by omega) hno hcn
                        refine mw_aload_n C 0 d_Mo_addAll_89 rfl rfl ?_
                        refine mw_getr C f_Mo_36 d_Mo_addAll_90 (by decide) rfl rfl ?_
                        refine mw_bipush C (v := nI 48) d_Mo_addAll_93 (by decide) ?_
                        refine mw_iload_n C 1 d_Mo_addAll_95 rfl rfl ?_
                        refine mw_imulN C d_Mo_addAll_96 ?_
                        refine mw_iload C d_Mo_addAll_97 rfl ?_
                        refine mw_iaddN C d_Mo_addAll_99 ?_
                        refine mw_iconst C (v := nI 1) d_Mo_addAll_100 (by decide) ?_
                        refine mo_zast C rfl h d_Mo_addAll_101 (by decide) rfl rfl (by omega) (by decide) (by decide) (fun S h => ?_)
                        refine mw_iconst C (v := nI 1) d_Mo_addAll_102 (by decide) ?_
                        refine mw_istore_n C 2 d_Mo_addAll_103 rfl (by decide) ?_
                        refine mw_iincN C d_Mo_addAll_104 rfl (by decide) ?_
                        refine mw_goto C 17 d_Mo_addAll_107 (by decide) ?_
                        refine mw_iload C d_Mo_addAll_17 rfl ?_
                        refine mw_bipush C (v := nI 48) d_Mo_addAll_19 (by decide) ?_
                        refine mw_icmp_geN C 110 d_Mo_addAll_21 (by decide) (by omega) (by omega) (fun h21 => ?_) (fun h21 => ?_)
                        ·
                          exact mw_to _ (by exact And.intro rfl (And.intro rfl (And.intro rfl (trivial)))) (G S h)
                        ·
                          refine mw_iload_n C 2 d_Mo_addAll_24 rfl rfl ?_
                          refine mw_if_neN C 110 d_Mo_addAll_25 (by decide) (by omega) (fun h25 => ?_) (fun h25 => ?_)
                          ·
                            exact mw_to _ (by exact And.intro rfl (And.intro rfl (And.intro rfl (trivial)))) (G S h)
                          · exfalso; omega
                  ·
                    rw [eq_false_of_ne_true hr]
                    refine mw_eqi (show _ = nI 0 from rfl) ?_
                    refine mw_if_eqN C 104 d_Mo_addAll_68 (by decide) (by omega) (fun h68 => ?_) (fun h68 => ?_)
                    ·
                      exact mw_to _ (by exact And.intro rfl (And.intro rfl (And.intro rfl (And.intro rfl (And.intro rfl (trivial)))))) (N (fun hc => hr ((a_canB_iff _ _ _ _).mp hc).2.2.1))
                    · exfalso; omega
      refine mw_iconst C (v := nI 0) d_Mo_addAll_6 (by decide) ?_
      refine mw_istore_n C 2 d_Mo_addAll_7 rfl (by decide) ?_
      refine mw_aload_n C 0 d_Mo_addAll_8 rfl rfl ?_
      refine mw_iload_n C 1 d_Mo_addAll_9 rfl rfl ?_
      refine mw_run0l C ix_Mo (mw_invV C (kk := 0) (m_Mo_graphOf l D cA cn fv τ node _ (mR_rs h) hn hI.f9) ix_Mo kb_Mo_140 wm_Mo_graphOf wv_Mo_graphOf (by decide) rfl rfl d_Mo_addAll_10 rfl rfl (Nat.le_of_ble_eq_true rfl) rfl rfl ⟨by decide, by decide⟩ ⟨Nat.zero_le _, Nat.zero_le _⟩) (fun x10 e10 => ?_)
      subst e10
      refine mw_lstore_n C 3 d_Mo_addAll_13 rfl (by decide) ?_
      refine mw_iconst C (v := nI 0) d_Mo_addAll_14 (by decide) ?_
      refine mw_istore C d_Mo_addAll_15 (by decide) ?_
      exact mw_to _ (by exact And.intro rfl (And.intro rfl (And.intro rfl (And.intro rfl (And.intro rfl (trivial)))))) (I 48 0 rfl (fun q hq => by omega))
  refine mw_iconst C (v := nI 1) d_Mo_addAll_0 (by decide) ?_
  refine mw_istore_n C 2 d_Mo_addAll_1 rfl (by decide) ?_
  refine mw_iload_n C 2 d_Mo_addAll_2 rfl rfl ?_
  refine mw_if_eqN C 113 d_Mo_addAll_3 (by decide) (by omega) (fun h3 => ?_) (fun h3 => ?_)
  · exfalso; omega
  ·
    exact mw_to _ (by exact And.intro rfl (And.intro rfl (trivial))) (L _ σ S rfl h hI rfl)
def a_readyC (fy : Nat) (σ : aS) (fr to v at_ : Nat) : aS := if σ.1 13 (4 * at_ + fr) = 0 then (if 3 ≤ a_noted ((a_up σ 13 (4 * at_ + fr) v).1 13) at_ v 4 ∧ σ.1 8 at_ = 0 then a_add (a_up (a_ready fy (a_up σ 13 (4 * at_ + fr) v) to v at_) 8 at_ v) to else if 2 ≤ a_noted ((a_up σ 13 (4 * at_ + fr) v).1 13) at_ v 4 then a_ready fy (a_up σ 13 (4 * at_ + fr) v) to v at_ else a_up σ 13 (4 * at_ + fr) v) else σ
theorem aI_13 {fy B : Nat} {σ : aS} (h : aI fy B σ) (j : Nat) {v : Nat} (hv : v < 80) : aI fy B (a_up σ 13 j v) := (aI_mk (h.pl) (h.st) (h.tr) (h.qu) (h.f6) (h.f7) (h.f9) (h.f10) (h.f15) (h.ac) (fun n => by
    refine ⟨(h.vo n).1, ?_⟩
    rw [a_up_at]
    split
    · exact hv
    · exact (h.vo n).2) (h.bl) (h.ow) (h.cm) (h.oc) (h.qd) (h.be) (h.fo) (h.vs) (h.mm) (h.wt))
theorem aI_12 {fy B : Nat} {σ : aS} (h : aI fy B σ) (j : Nat) {v : Nat} (hv : v < 80) : aI fy B (a_up σ 12 j v) := (aI_mk (h.pl) (h.st) (h.tr) (h.qu) (h.f6) (h.f7) (h.f9) (h.f10) (h.f15) (h.ac) (fun n => by
    refine ⟨?_, (h.vo n).2⟩
    rw [a_up_at]
    split
    · exact hv
    · exact (h.vo n).1) (h.bl) (h.ow) (h.cm) (h.oc) (h.qd) (h.be) (h.fo) (h.vs) (h.mm) (h.wt))
theorem aI_8 {fy B : Nat} {σ : aS} (h : aI fy B σ) {to v : Nat} (ht : to < 4) (hv : v ≤ σ.1 0 5) : aI fy B (a_up σ 8 (48 * to + σ.1 1 v) v) := (aI_mk (h.pl) (h.st) (h.tr) (h.qu) (h.f6) (h.f7) (h.f9) (h.f10) (h.f15) (fun n q hn hq => by
    have hp := h.pl v
    have e0 : (a_up σ 8 (48 * to + σ.1 1 v) v).1 0 5 = σ.1 0 5 := rfl
    have e1 : ∀ u, (a_up σ 8 (48 * to + σ.1 1 v) v).1 1 u = σ.1 1 u := fun _ => rfl
    rw [e0, e1, a_up_at]
    by_cases e : n = to ∧ q = σ.1 1 v
    · rw [if_pos ⟨rfl, by omega⟩]
      exact ⟨hv, fun _ => e.2.symm⟩
    · rw [if_neg (fun hh => e (by omega))]
      exact h.ac n q hn hq) (h.vo) (h.bl) (h.ow) (h.cm) (h.oc) (h.qd) (h.be) (h.fo) (h.vs) (h.mm) (h.wt))
theorem aI_6 {fy B : Nat} {σ : aS} (h : aI fy B σ) {j : Nat} (hj : j < 192) (h0 : σ.1 6 j = 0) : 4 ≤ B ∧ aI fy (B - 4) (a_up σ 6 j 1) := by
  have hu := a_c0_up (g := σ.1 6) (g' := (a_up σ 6 j 1).1 6) (j := j) (n := 192) h0 (by rw [a_up_s]; decide) (fun i hi => a_up_j _ _ _ _ hi) hj
  have hm := h.mm
  refine ⟨by omega, ?_⟩
  exact (aI_mk (h.pl) (h.st) (h.tr) (h.qu) (fun n => by
    rw [a_up_at]
    split
    · exact Nat.le_refl _
    · exact h.f6 n) (h.f7) (h.f9) (h.f10) (h.f15) (h.ac) (h.vo) (h.bl) (h.ow) (h.cm) (h.oc) (h.qd) (h.be) (h.fo) (h.vs) (by
    show σ.1 0 12 + 4 * (48 - a_own σ) + 4 * a_c0 ((a_up σ 6 j 1).1 6) 192 + 4 * a_c0 (σ.1 7) 192 ≤ B - 4
    omega) (h.wt))
theorem aI_7 {fy B : Nat} {σ : aS} (h : aI fy B σ) {j : Nat} (hj : j < 192) (h0 : σ.1 7 j = 0) : 4 ≤ B ∧ aI fy (B - 4) (a_up σ 7 j 1) := by
  have hu := a_c0_up (g := σ.1 7) (g' := (a_up σ 7 j 1).1 7) (j := j) (n := 192) h0 (by rw [a_up_s]; decide) (fun i hi => a_up_j _ _ _ _ hi) hj
  have hm := h.mm
  refine ⟨by omega, ?_⟩
  exact (aI_mk (h.pl) (h.st) (h.tr) (h.qu) (h.f6) (fun n => by
    rw [a_up_at]
    split
    · exact Nat.le_refl _
    · exact h.f7 n) (h.f9) (h.f10) (h.f15) (h.ac) (h.vo) (h.bl) (h.ow) (h.cm) (h.oc) (h.qd) (h.be) (h.fo) (h.vs) (by
    show σ.1 0 12 + 4 * (48 - a_own σ) + 4 * a_c0 (σ.1 6) 192 + 4 * a_c0 ((a_up σ 7 j 1).1 7) 192 ≤ B - 4
    omega) (h.wt))
theorem aI_ready {fy B : Nat} {σ : aS} (h : aI fy B σ) {to v at_ : Nat} (ht : to < 4) (ha : at_ < 192) (hv : 1 ≤ v) (hv2 : v ≤ σ.1 0 5) : aI fy B (a_ready fy σ to v at_) := by
  unfold a_ready
  split
  · rename_i h0
    obtain ⟨h4, h1⟩ := aI_7 h ha h0
    have := aI_cast h1 (kind := 2) (by decide) ht hv hv2 4 (Nat.le_refl _)
    rw [show B - 4 + 4 = B from by omega] at this
    exact this
  · exact h
theorem aI_sendC {fy B : Nat} {σ : aS} (h : aI fy B σ) (fr : Nat) {to v at_ : Nat} (ht : to < 4) (ha : at_ < 192) (hv : 1 ≤ v) (hv2 : v ≤ σ.1 0 5) : aI fy B (a_sendC fy σ fr to v at_) := by
  unfold a_sendC
  split
  · rename_i h0
    obtain ⟨h4, h1⟩ := aI_6 h ha h0.2
    have := aI_cast h1 (kind := 1) (by decide) ht hv hv2 4 (Nat.le_refl _)
    rw [show B - 4 + 4 = B from by omega] at this
    exact this
  · exact h
theorem aI_echoC {fy B : Nat} {σ : aS} (h : aI fy B σ) (fr : Nat) {to v at_ : Nat} (ht : to < 4) (ha : at_ < 192) (hv : 1 ≤ v) (hv2 : v ≤ σ.1 0 5) : aI fy B (a_echoC fy σ fr to v at_) := by
  have h72 := h.v72
  unfold a_echoC
  split
  · split
    · exact aI_ready (aI_12 h _ (by omega)) ht ha hv hv2
    · exact aI_12 h _ (by omega)
  · exact h
theorem a_ready_1 (fy : Nat) (σ : aS) (to v at_ j : Nat) : (a_ready fy σ to v at_).1 1 j = σ.1 1 j := by
  unfold a_ready
  split
  · rw [(a_cast_kp _ _ _ _ _ 4).1.1 1 j (by unfold a_S; decide)]
    rfl
  · rfl
theorem a_ready_8 (fy : Nat) (σ : aS) (to v at_ j : Nat) : (a_ready fy σ to v at_).1 8 j = σ.1 8 j := by
  unfold a_ready
  split
  · rw [(a_cast_kp _ _ _ _ _ 4).1.1 8 j (by unfold a_S; decide)]
    rfl
  · rfl
theorem a_ready_5 (fy : Nat) (σ : aS) (to v at_ : Nat) : (a_ready fy σ to v at_).1 0 5 = σ.1 0 5 := by
  unfold a_ready
  split
  · rw [(a_cast_kp _ _ _ _ _ 4).2 5 (by decide)]
    rfl
  · rfl
theorem aI_readyC {fy B : Nat} {σ : aS} (h : aI fy B σ) (fr : Nat) {to v at_ : Nat} (ht : to < 4) (ha : at_ = 48 * to + σ.1 1 v) (hv : 1 ≤ v) (hv2 : v ≤ σ.1 0 5) : aI fy B (a_readyC fy σ fr to v at_) := by
  have h72 := h.v72
  have hp := h.pl v
  have h1 := aI_13 h (4 * at_ + fr) (v := v) (by omega)
  unfold a_readyC
  split
  · split
    · have h2 := aI_ready h1 (at_ := at_) ht (by omega) hv hv2
      have h3 := aI_8 h2 ht (v := v) (by rw [a_ready_5]; exact hv2)
      rw [a_ready_1] at h3
      rw [ha] at h3 ⊢
      exact aI_addL h3 to 48
    · split
      · exact aI_ready h1 ht (by omega) hv hv2
      · exact h1
  · exact h
set_option maxHeartbeats 4000000 in
set_option maxRecDepth 100000 in
theorem m_Mo_readyComes (l : Launch) (D : va_G) (cA : Nat → ClassId) (cn fv : Int32) (σ : aS) (fy B fr to v at_ : Nat) (S : mw_S) (h : mR cn fv σ S) (hfy : fyR fv fy) (hI : aI fy B σ) (hf : fr < 4) (ht : to < 4) (ha : at_ = 48 * to + σ.1 1 v) (hv : 1 ≤ v) (hv2 : v ≤ σ.1 0 5) (hB : B + 4 ≤ 2400) : mw_M true l lw_tbl y_Mo_readyComes b_Mo_readyComes 6 none { frames := 5, cells := 0, slots := 0, locals := 112 } D vCl cA sh_Mo 22 [.inr (.inr 0), .inl (nI fr), .inl (nI to), .inl (nI v), .inl (nI at_)] (S) (mw_Pv (fun S' => mR cn fv (a_readyC fy σ fr to v at_) S')) := by
  refine mw_M_of (by decide) (Nat.le_of_ble_eq_true rfl) ?_
  intro p e s m args below meth c A ad C hR
  have h72 := hI.v72
  have hp := hI.pl v
  have hat : at_ < 192 := by omega
  have h13 := (hI.vo (4 * at_ + fr)).2
  have hm := hI.m
  have h8 : σ.1 8 at_ < 80 := by rw [ha]; exact hI.a80 ht hp
  refine mw_aload_n C 0 d_Mo_readyComes_0 rfl rfl ?_
  refine mw_getr C f_Mo_48 d_Mo_readyComes_1 (by decide) rfl rfl ?_
  refine mw_iconst C (v := nI 4) d_Mo_readyComes_4 (by decide) ?_
  refine mw_iload C d_Mo_readyComes_5 rfl ?_
  refine mw_imulN C d_Mo_readyComes_7 ?_
  refine mw_iload_n C 1 d_Mo_readyComes_8 rfl rfl ?_
  refine mw_iaddN C d_Mo_readyComes_9 ?_
  refine mo_ald C h d_Mo_readyComes_10 (by decide) rfl rfl (by omega) (by decide) ?_
  refine mw_if_eqN C 15 d_Mo_readyComes_11 (by decide) (by omega) (fun h11 => ?_) (fun h11 => ?_)
  ·
    have h1 := aI_13 hI (4 * at_ + fr) (v := v) (by omega)
    have hle := a_noted_le ((a_up σ 13 (4 * at_ + fr) v).1 13) at_ v 4
    refine mw_aload_n C 0 d_Mo_readyComes_15 rfl rfl ?_
    refine mw_getr C f_Mo_48 d_Mo_readyComes_16 (by decide) rfl rfl ?_
    refine mw_iconst C (v := nI 4) d_Mo_readyComes_19 (by decide) ?_
    refine mw_iload C d_Mo_readyComes_20 rfl ?_
    refine mw_imulN C d_Mo_readyComes_22 ?_
    refine mw_iload_n C 1 d_Mo_readyComes_23 rfl rfl ?_
    refine mw_iaddN C d_Mo_readyComes_24 ?_
    refine mw_iload_n C 3 d_Mo_readyComes_25 rfl rfl ?_
    refine mo_ast C rfl h d_Mo_readyComes_26 (by decide) rfl rfl (by omega) (by decide) (fun S h => ?_)
    refine mw_aload_n C 0 d_Mo_readyComes_27 rfl rfl ?_
    refine mw_getr C f_Mo_48 d_Mo_readyComes_28 (by decide) rfl rfl ?_
    refine mw_iload C d_Mo_readyComes_31 rfl ?_
    refine mw_iload_n C 3 d_Mo_readyComes_33 rfl rfl ?_
    refine mw_run0i C ix_I_Mo13 (mw_invS C (m_Mo_noted l D cA ((a_up σ 13 (4 * at_ + fr) v).1 13) at_ v _ (fun j => h.2.2.2.2.1 13 j rfl) (fun j => Nat.lt_trans (h1.vo j).2 (by decide)) hat (by omega)) ix_I_Mo13 kb_Mo_124 ws_Mo_noted d_Mo_readyComes_34 rfl rfl (Nat.le_of_ble_eq_true rfl) rfl rfl ⟨by decide, by decide⟩ ⟨Nat.zero_le _, Nat.zero_le _⟩) (fun x34 e34 => ?_)
    subst e34
    refine mw_istore C d_Mo_readyComes_37 (by decide) ?_
    refine mw_iload C d_Mo_readyComes_39 rfl ?_
    refine mw_iconst C (v := nI 2) d_Mo_readyComes_41 (by decide) ?_
    refine mw_icmp_ltN C 53 d_Mo_readyComes_42 (by decide) (by omega) (by omega) (fun h42 => ?_) (fun h42 => ?_)
    ·
      refine mw_iload C d_Mo_readyComes_53 rfl ?_
      refine mw_iconst C (v := nI 3) d_Mo_readyComes_55 (by decide) ?_
      refine mw_icmp_ltN C 82 d_Mo_readyComes_56 (by decide) (by omega) (by omega) (fun h56 => ?_) (fun h56 => ?_)
      ·
        refine mw_vret C hR d_Mo_readyComes_82 ?_
        unfold a_readyC
        rw [if_pos h11, if_neg (fun hh => by omega), if_neg (by omega)]
        exact h
      · exfalso; omega
    ·
      refine mw_aload_n C 0 d_Mo_readyComes_45 rfl rfl ?_
      refine mw_iload_n C 2 d_Mo_readyComes_46 rfl rfl ?_
      refine mw_iload_n C 3 d_Mo_readyComes_47 rfl rfl ?_
      refine mw_iload C d_Mo_readyComes_48 rfl ?_
      refine mo_runv C rfl (mw_invV C (kk := 0) (m_Mo_ready l D cA cn fv _ fy to v at_ _ (mR_rs h) hfy ht (by omega) hat (h1.f7 _) (by show σ.1 0 12 + 4 ≤ 2400; omega)) ix_Mo kb_Mo_128 wm_Mo_ready wv_Mo_ready (by decide) rfl rfl d_Mo_readyComes_50 rfl rfl (Nat.le_of_ble_eq_true rfl) rfl rfl ⟨by decide, by decide⟩ ⟨Nat.zero_le _, Nat.zero_le _⟩) (fun S h => ?_)
      refine mw_iload C d_Mo_readyComes_53 rfl ?_
      refine mw_iconst C (v := nI 3) d_Mo_readyComes_55 (by decide) ?_
      refine mw_icmp_ltN C 82 d_Mo_readyComes_56 (by decide) (by omega) (by omega) (fun h56 => ?_) (fun h56 => ?_)
      ·
        refine mw_vret C hR d_Mo_readyComes_82 ?_
        unfold a_readyC
        rw [if_pos h11, if_neg (fun hh => by omega), if_pos (by omega)]
        exact h
      ·
        refine mw_aload_n C 0 d_Mo_readyComes_59 rfl rfl ?_
        refine mw_getr C f_Mo_33 d_Mo_readyComes_60 (by decide) rfl rfl ?_
        refine mw_iload C d_Mo_readyComes_63 rfl ?_
        refine mo_ald C h d_Mo_readyComes_65 (by decide) rfl rfl (by omega) (by decide) ?_
        refine mw_eqi (show _ = nI (σ.1 8 at_) from by rw [a_ready_8]; rfl) ?_
        refine mw_if_neN C 82 d_Mo_readyComes_66 (by decide) (by omega) (fun h66 => ?_) (fun h66 => ?_)
        ·
          refine mw_vret C hR d_Mo_readyComes_82 ?_
          unfold a_readyC
          rw [if_pos h11, if_neg (fun hh => by omega), if_pos (by omega)]
          exact h
        ·
          have h2 := aI_ready h1 (at_ := at_) ht hat hv hv2
          have h3 := aI_8 h2 ht (v := v) (by rw [a_ready_5]; exact hv2)
          rw [a_ready_1] at h3
          rw [show 48 * to + (a_up σ 13 (4 * at_ + fr) v).1 1 v = at_ from ha.symm] at h3
          refine mw_aload_n C 0 d_Mo_readyComes_69 rfl rfl ?_
          refine mw_getr C f_Mo_33 d_Mo_readyComes_70 (by decide) rfl rfl ?_
          refine mw_iload C d_Mo_readyComes_73 rfl ?_
          refine mw_iload_n C 3 d_Mo_readyComes_75 rfl rfl ?_
          refine mo_ast C rfl h d_Mo_readyComes_76 (by decide) rfl rfl (by omega) (by decide) (fun S h => ?_)
          refine mw_aload_n C 0 d_Mo_readyComes_77 rfl rfl ?_
          refine mw_iload_n C 2 d_Mo_readyComes_78 rfl rfl ?_
          refine mo_runv C rfl (mw_invV C (kk := 0) (m_Mo_addAll l D cA cn fv _ fy B to _ (mR_rs h) h3 ht) ix_Mo kb_Mo_131 wm_Mo_addAll wv_Mo_addAll (by decide) rfl rfl d_Mo_readyComes_79 rfl rfl (Nat.le_of_ble_eq_true rfl) rfl rfl ⟨by decide, by decide⟩ ⟨Nat.zero_le _, Nat.zero_le _⟩) (fun S h => ?_)
          refine mw_vret C hR d_Mo_readyComes_82 ?_
          unfold a_readyC
          rw [if_pos h11, if_pos ⟨by omega, h66⟩]
          exact h
  ·
    refine mw_vret C hR d_Mo_readyComes_14 ?_
    unfold a_readyC
    rw [if_neg (by omega)]
    exact h
