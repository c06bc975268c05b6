/-! the reference's waves -/
def a_sup (σ : aS) (node w l : Nat) : Nat → Nat
  | 0 => 0
  | s + 1 => a_sup σ node w l s + (if 0 < σ.1 9 (48 * node + (16 * w - 4 + s)) ∧ lb (a_below σ node true 48 (lN (2 ^ (16 * w - 4 + s)))) l = true then 1 else 0)
theorem a_sup_le (σ : aS) (node w l : Nat) : ∀ s, a_sup σ node w l s ≤ s
  | 0 => Nat.le_refl 0
  | s + 1 => by
    have := a_sup_le σ node w l s
    unfold a_sup
    split <;> omega
def a_chain (cn : Int32) (node cm : Nat) : Nat → Nat → aS → Nat × aS
  | 0, len, σ => (len, σ)
  | d + 1, len, σ => if 0 < σ.1 9 (48 * node + a_lead cn (cm + d + 1)) ∧ lb (a_below σ node true 48 (lN (2 ^ σ.1 21 (len - 1)))) (a_lead cn (cm + d + 1)) = true then a_chain cn node cm d (len + 1) (a_up σ 21 len (a_lead cn (cm + d + 1))) else a_chain cn node cm d len σ
def a_ordAll (node : Nat) : Nat → aS → aS
  | 0, σ => σ
  | k + 1, σ => a_ordAll node k (a_ordB σ node (σ.1 21 k))
def a_fin (node w : Nat) (x : Nat × aS) : aS := a_ordAll node x.1 (a_up x.2 16 node w)
def a_done (cn : Int32) (σ : aS) (node w : Nat) : aS := if σ.1 9 (48 * node + a_lead cn w) = 0 then σ else if a_sup σ node w (a_lead cn w) 4 < 3 then σ else a_fin node w (a_chain cn node (σ.1 16 node) (w - 1 - σ.1 16 node) 1 (a_up σ 21 0 (a_lead cn w)))
theorem a_lead_lt (cn : Int32) {w : Nat} (h2 : w ≤ 3) : a_lead cn w < 48 := by
  unfold a_lead
  have := Nat.mod_lt (cn.toBitVec.toNat / 2 ^ (2 * (w - 1))) (show 0 < 4 from by decide)
  omega
theorem aI_21 {fy B : Nat} {σ : aS} (h : aI fy B σ) (j x : Nat) : aI fy B (a_up σ 21 j x) := (aI_mk (h.pl) (h.st) (h.tr) (h.qu) (h.f6) (h.f7) (h.f9) (h.f10) (h.f15) (h.ac) (h.vo) (h.bl) (h.ow) (h.cm) (h.oc) (h.qd) (h.be) (h.fo) (h.vs) (h.mm) (h.wt))
theorem aI_16 {fy B : Nat} {σ : aS} (h : aI fy B σ) (j : Nat) {x : Nat} (hx : x ≤ 3) : aI fy B (a_up σ 16 j x) := (aI_mk (h.pl) (h.st) (h.tr) (h.qu) (h.f6) (h.f7) (h.f9) (h.f10) (h.f15) (h.ac) (h.vo) (h.bl) (h.ow) (fun n => by
    rw [a_up_at]
    split
    · exact hx
    · exact h.cm n) (h.oc) (h.qd) (h.be) (h.fo) (h.vs) (h.mm) (h.wt))
theorem a_ordAll_kp (node : Nat) : ∀ (k : Nat) (σ : aS), a_kp a_G σ (a_ordAll node k σ)
  | 0, σ => a_kp_r _ _
  | k + 1, σ => a_kp_t (a_ordL_kp node _ σ 48) (a_ordAll_kp node k _)
theorem aI_ordAll {fy B : Nat} {node : Nat} (hn : node < 4) : ∀ (k : Nat) {σ : aS}, aI fy B σ → aI fy B (a_ordAll node k σ)
  | 0, _, hI => hI
  | k + 1, _, hI => aI_ordAll hn k (aI_ordB hI _ hn)
theorem a_chain_kp (cn : Int32) (node cm : Nat) : ∀ (d len : Nat) (σ : aS), a_kp (fun f => f = 21) σ (a_chain cn node cm d len σ).2
  | 0, len, σ => a_kp_r _ _
  | d + 1, len, σ => by
    unfold a_chain
    split
    · exact a_kp_t (a_kp_u (fs := fun f => f = 21) (f := 21) rfl _ _ _) (a_chain_kp cn node cm d _ _)
    · exact a_chain_kp cn node cm d _ _
theorem aI_chain {fy B : Nat} (cn : Int32) (node cm : Nat) : ∀ (d len : Nat) {σ : aS}, aI fy B σ → aI fy B (a_chain cn node cm d len σ).2
  | 0, len, _, hI => hI
  | d + 1, len, _, hI => by
    unfold a_chain
    split
    · exact aI_chain cn node cm d _ (aI_21 hI _ _)
    · exact aI_chain cn node cm d _ hI
theorem aI_done {fy B : Nat} {σ : aS} (hI : aI fy B σ) (cn : Int32) {node w : Nat} (hn : node < 4) (hw : w ≤ 3) : aI fy B (a_done cn σ node w) := by
  unfold a_done a_fin
  split
  · exact hI
  · split
    · exact hI
    · exact aI_ordAll hn _ (aI_16 (aI_chain cn node _ _ _ (aI_21 hI _ _)) _ hw)
theorem a_done_kp (cn : Int32) (σ : aS) (node w : Nat) : a_kp a_F σ (a_done cn σ node w) := by
  unfold a_done a_fin
  split
  · exact a_kp_r _ _
  · split
    · exact a_kp_r _ _
    · refine a_kp_t ?_ (a_GF (a_ordAll_kp node _ _))
      refine a_kp_t ?_ (a_kp_u (fs := a_F) (f := 16) (by unfold a_F; decide) _ _ _)
      refine a_kp_t (a_kp_u (fs := a_F) (f := 21) (by unfold a_F; decide) _ _ _) (a_kp_w (a_chain_kp cn node _ _ _ _) (fun f hf => by unfold a_F; omega))
set_option maxHeartbeats 4000000 in
set_option maxRecDepth 100000 in
theorem m_Mo_done (l : Launch) (D : va_G) (cA : Nat → ClassId) (cn fv : Int32) (σ : aS) (fy B node w0 : Nat) (S : mw_S) (h : mR cn fv σ S) (hI : aI fy B σ) (hn : node < 4) (hw1 : 1 ≤ w0) (hw3 : w0 ≤ 3) : mw_M true l lw_tbl y_Mo_done b_Mo_done 9 none { frames := 3, cells := 0, slots := 0, locals := 79 } D vCl cA sh_Mo 22 [.inr (.inr 0), .inl (nI node), .inl (nI w0)] (S) (mw_Pv (fun S' => mR cn fv (a_done cn σ node w0) S')) := by
  refine mw_M_of (by decide) (Nat.le_of_ble_eq_true rfl) ?_
  intro p e s m args below meth c A ad C hR
  have L3 : ∀ (i : Nat) (τ : aS) (S1 : mw_S), i < 4 → mR cn fv τ S1 → aI fy B τ → (∀ j, j ≤ i → τ.1 21 j < 48) → a_ordAll node (i + 1) τ = a_done cn σ node w0 → mw p l e { frames := 3, cells := 0, slots := 0, locals := 79 } s m args below meth c (MQ below (mw_Qc true D vCl cA ad sh_Mo 22 s.heap.size (S) (mw_Pv (fun S' => mR cn fv (a_done cn σ node w0) S'))) args s 0 0 A) 0 0 D vCl cA A ad sh_Mo 22 9 (213) ([(6, .inl (nI i)), (0, .inr (.inr 0)), (1, .inl (nI node))]) ([]) (S1) := by
    intro i
    induction i with
    | zero =>
      intro τ S1 hi h hI hl he
      have hl0 := hl 0 (Nat.le_refl _)
      refine mw_iload C d_Mo_done_213 rfl ?_
      refine mw_if_ltN C 236 d_Mo_done_215 (by decide) (by omega) ?_
      refine mw_aload_n C 0 d_Mo_done_218 rfl rfl ?_
      refine mw_iload_n C 1 d_Mo_done_219 rfl rfl ?_
      refine mw_aload_n C 0 d_Mo_done_220 rfl rfl ?_
      refine mw_getr C f_Mo_72 d_Mo_done_221 (by decide) rfl rfl ?_
      refine mw_iload C d_Mo_done_224 rfl ?_
      refine mo_ald C h d_Mo_done_226 (by decide) rfl rfl (by omega) (by decide) ?_
      refine mo_runv C rfl (mw_invV C (kk := 0) (m_Mo_orderBelow l D cA cn fv τ fy B node _ _ (mR_rs h) hI hn hl0) ix_Mo kb_Mo_158 wm_Mo_orderBelow wv_Mo_orderBelow (by decide) rfl rfl d_Mo_done_227 rfl rfl (Nat.le_of_ble_eq_true rfl) rfl rfl ⟨by decide, by decide⟩ ⟨Nat.zero_le _, Nat.zero_le _⟩) (fun S h => ?_)
      refine mw_iinc C d_Mo_done_230 rfl rfl (by decide) ?_
      refine mw_goto C 213 d_Mo_done_233 (by decide) ?_
      refine mw_iload C d_Mo_done_213 rfl ?_
      refine mw_if_lt C 236 d_Mo_done_215 (by decide) (fun _ => ?_) (fun h9 => absurd (by decide) h9)
      refine mw_vret C hR d_Mo_done_236 ?_
      rw [← he]
      exact h
    | succ i ih =>
      intro τ S1 hi h hI hl he
      have hl0 := hl (i + 1) (Nat.le_refl _)
      refine mw_iload C d_Mo_done_213 rfl ?_
      refine mw_if_ltN C 236 d_Mo_done_215 (by decide) (by omega) ?_
      refine mw_aload_n C 0 d_Mo_done_218 rfl rfl ?_
      refine mw_iload_n C 1 d_Mo_done_219 rfl rfl ?_
      refine mw_aload_n C 0 d_Mo_done_220 rfl rfl ?_
      refine mw_getr C f_Mo_72 d_Mo_done_221 (by decide) rfl rfl ?_
      refine mw_iload C d_Mo_done_224 rfl ?_
      refine mo_ald C h d_Mo_done_226 (by decide) rfl rfl (by omega) (by decide) ?_
      refine mo_runv C rfl (mw_invV C (kk := 0) (m_Mo_orderBelow l D cA cn fv τ fy B node _ _ (mR_rs h) hI hn hl0) ix_Mo kb_Mo_158 wm_Mo_orderBelow wv_Mo_orderBelow (by decide) rfl rfl d_Mo_done_227 rfl rfl (Nat.le_of_ble_eq_true rfl) rfl rfl ⟨by decide, by decide⟩ ⟨Nat.zero_le _, Nat.zero_le _⟩) (fun S h => ?_)
      refine mw_idecN C d_Mo_done_230 rfl (by decide) ?_
      refine mw_goto C 213 d_Mo_done_233 (by decide) ?_
      exact mw_to _ (by exact And.intro rfl (And.intro rfl (And.intro rfl (trivial)))) (ih _ S (by omega) h (aI_ordB hI _ hn) (fun j hj => by
        rw [show (a_ordB τ node (τ.1 21 (i + 1))).1 21 j = τ.1 21 j from (a_ordL_kp node _ τ 48).1 21 j (by unfold a_G; decide)]
        exact hl j (by omega)) he)
  have L2 : ∀ (d len k : Nat) (τ : aS) (S1 : mw_S), (d = 0 ∧ k ≤ σ.1 16 node) ∨ (0 < d ∧ k = σ.1 16 node + d) → k ≤ 2 → 1 ≤ len → len + d ≤ 3 → mR cn fv τ S1 → aI fy B τ → τ.1 16 node = σ.1 16 node → (∀ j, j < len → τ.1 21 j < 48) → a_fin node w0 (a_chain cn node (σ.1 16 node) d len τ) = a_done cn σ node w0 → mw p l e { frames := 3, cells := 0, slots := 0, locals := 79 } s m args below meth c (MQ below (mw_Qc true D vCl cA ad sh_Mo 22 s.heap.size (S) (mw_Pv (fun S' => mR cn fv (a_done cn σ node w0) S'))) args s 0 0 A) 0 0 D vCl cA A ad sh_Mo 22 9 (109) ([(6, .inl (nI k)), (5, .inl (nI len)), (0, .inr (.inr 0)), (1, .inl (nI node)), (2, .inl (nI w0))]) ([]) (S1) := by
    intro d
    induction d with
    | zero =>
      intro len k τ S1 hk hk2 hl hl3 h hI hc hls he
      have hc3 := hI.cm node
      refine mw_iload C d_Mo_done_109 rfl ?_
      refine mw_aload_n C 0 d_Mo_done_111 rfl rfl ?_
      refine mw_getr C f_Mo_57 d_Mo_done_112 (by decide) rfl rfl ?_
      refine mw_iload_n C 1 d_Mo_done_115 rfl rfl ?_
      refine mo_ald C h d_Mo_done_116 (by decide) rfl rfl (by omega) (by decide) ?_
      refine mw_icmp_leN C 200 d_Mo_done_117 (by decide) (by omega) (by omega) (fun h117 => ?_) (fun h117 => ?_)
      ·
        refine mw_aload_n C 0 d_Mo_done_200 rfl rfl ?_
        refine mw_getr C f_Mo_57 d_Mo_done_201 (by decide) rfl rfl ?_
        refine mw_iload_n C 1 d_Mo_done_204 rfl rfl ?_
        refine mw_iload_n C 2 d_Mo_done_205 rfl rfl ?_
        refine mo_ast C rfl h d_Mo_done_206 (by decide) rfl rfl (by omega) (by decide) (fun S h => ?_)
        refine mw_iload C d_Mo_done_207 rfl ?_
        refine mw_iconst C (v := nI 1) d_Mo_done_209 (by decide) ?_
        refine mw_isubN C d_Mo_done_210 (by omega) ?_
        refine mw_istore C d_Mo_done_211 (by decide) ?_
        refine mw_to _ (by exact And.intro rfl (And.intro rfl (And.intro rfl (trivial)))) (L3 (len - 1) _ S (by omega) h (aI_16 hI _ hw3) (fun j hj => by rw [a_up_f _ _ _ _ (by decide)]; exact hls j (by omega)) ?_)
        rw [show len - 1 + 1 = len from by omega]
        exact he
      · exfalso; omega
    | succ d ih =>
      intro len k τ S1 hk hk2 hl hl3 h hI hc hls he
      obtain rfl : k = σ.1 16 node + d + 1 := by omega
      have hc3 := hI.cm node
      have hL := a_lead_lt cn (w := σ.1 16 node + d + 1) (by omega)
      have hls0 := hls (len - 1) (by omega)
      have h9i := hI.f9 (48 * node + a_lead cn (σ.1 16 node + d + 1))
      have F : ¬ (0 < τ.1 9 (48 * node + a_lead cn (σ.1 16 node + d + 1)) ∧ lb (a_below τ node true 48 (lN (2 ^ τ.1 21 (len - 1)))) (a_lead cn (σ.1 16 node + d + 1)) = true) → mw p l e { frames := 3, cells := 0, slots := 0, locals := 79 } s m args below meth c (MQ below (mw_Qc true D vCl cA ad sh_Mo 22 s.heap.size (S) (mw_Pv (fun S' => mR cn fv (a_done cn σ node w0) S'))) args s 0 0 A) 0 0 D vCl cA A ad sh_Mo 22 9 (174) ([(7, .inl (nI (a_lead cn (σ.1 16 node + d + 1)))), (6, .inl (nI (σ.1 16 node + d + 1))), (5, .inl (nI len)), (0, .inr (.inr 0)), (1, .inl (nI node)), (2, .inl (nI w0))]) ([]) (S1) := by
        intro hno
        refine mw_iconst C (v := nI 0) d_Mo_done_174 (by decide) ?_
        refine mw_istore C d_Mo_done_175 (by decide) ?_
        refine mw_iload C d_Mo_done_177 rfl ?_
        refine mw_if_eqN C 194 d_Mo_done_179 (by decide) (by omega) (fun h179 => ?_) (fun h179 => ?_)
        ·
          refine mw_idecN C d_Mo_done_194 rfl (by decide) ?_
          refine mw_goto C 109 d_Mo_done_197 (by decide) ?_
          refine mw_to _ (by exact And.intro rfl (And.intro rfl (And.intro rfl (And.intro rfl (And.intro rfl (trivial)))))) (ih len _ τ S1 (by omega) (by omega) hl (by omega) h hI hc hls ?_)
          rw [← he, a_chain, if_neg hno]
        · exfalso; omega
      refine mw_iload C d_Mo_done_109 rfl ?_
      refine mw_aload_n C 0 d_Mo_done_111 rfl rfl ?_
      refine mw_getr C f_Mo_57 d_Mo_done_112 (by decide) rfl rfl ?_
      refine mw_iload_n C 1 d_Mo_done_115 rfl rfl ?_
      refine mo_ald C h d_Mo_done_116 (by decide) rfl rfl (by omega) (by decide) ?_
      refine mw_icmp_leN C 200 d_Mo_done_117 (by decide) (by omega) (by omega) (fun h117 => ?_) (fun h117 => ?_)
      · exfalso; omega
      ·
        refine mw_aload_n C 0 d_Mo_done_120 rfl rfl ?_
        refine mw_iload C d_Mo_done_121 rfl ?_
        refine mw_run0i C ix_Mo (mw_invV C (kk := 0) (m_Mo_leader l D cA cn fv τ (σ.1 16 node + d + 1) _ (mR_rs h) (by omega) (by omega)) ix_Mo kb_Mo_151 wm_Mo_leader wv_Mo_leader (by decide) rfl rfl d_Mo_done_123 rfl rfl (Nat.le_of_ble_eq_true rfl) rfl rfl ⟨by decide, by decide⟩ ⟨Nat.zero_le _, Nat.zero_le _⟩) (fun x123 e123 => ?_)
        subst e123
        refine mw_istore C d_Mo_done_126 (by decide) ?_
        refine mw_aload_n C 0 d_Mo_done_128 rfl rfl ?_
        refine mw_getr C f_Mo_36 d_Mo_done_129 (by decide) rfl rfl ?_
        refine mw_bipush C (v := nI 48) d_Mo_done_132 (by decide) ?_
        refine mw_iload_n C 1 d_Mo_done_134 rfl rfl ?_
        refine mw_imulN C d_Mo_done_135 ?_
        refine mw_iload C d_Mo_done_136 rfl ?_
        refine mw_iaddN C d_Mo_done_138 ?_
        refine mo_zald C h d_Mo_done_139 (by decide) rfl rfl (by omega) (by decide) ?_
        refine mw_if_eqN C 174 d_Mo_done_140 (by decide) (by omega) (fun h140 => ?_) (fun h140 => ?_)
        ·
          exact mw_to _ (by exact And.intro rfl (And.intro rfl (And.intro rfl (And.intro rfl (And.intro rfl (And.intro rfl (trivial))))))) (F (fun hh => by omega))
        ·
          refine mw_aload_n C 0 d_Mo_done_143 rfl rfl ?_
          refine mw_iload_n C 1 d_Mo_done_144 rfl rfl ?_
          refine mw_lconst C (v := 1) d_Mo_done_145 (by decide) ?_
          refine mw_aload_n C 0 d_Mo_done_146 rfl rfl ?_
          refine mw_getr C f_Mo_72 d_Mo_done_147 (by decide) rfl rfl ?_
          refine mw_iload C d_Mo_done_150 rfl ?_
          refine mw_iconst C (v := nI 1) d_Mo_done_152 (by decide) ?_
          refine mw_isubN C d_Mo_done_153 (by omega) ?_
          refine mo_ald C h d_Mo_done_154 (by decide) rfl rfl (by omega) (by decide) ?_
          refine mw_lshl C d_Mo_done_155 ?_
          refine mw_eql (one_shl (by omega)) ?_
          refine mw_iconst C (v := nI 1) d_Mo_done_156 (by decide) ?_
          refine mw_run0l C ix_Mo (mw_invV C (kk := 0) (m_Mo_below l D cA cn fv τ node 1 _ _ (mR_rs h) hn (by decide) (fun q hq => hI.a80 hn hq) hI.pl hI.st) ix_Mo kb_Mo_154 wm_Mo_below wv_Mo_below (by decide) rfl rfl d_Mo_done_157 rfl rfl (Nat.le_of_ble_eq_true rfl) rfl rfl ⟨by decide, by decide⟩ ⟨Nat.zero_le _, Nat.zero_le _⟩) (fun x157 e157 => ?_)
          subst e157
          refine mw_iload C d_Mo_done_160 rfl ?_
          refine mw_lshr C d_Mo_done_162 ?_
          refine mw_lconst C (v := 1) d_Mo_done_163 (by decide) ?_
          refine mw_land C d_Mo_done_164 ?_
          refine mw_lconst C (v := 1) d_Mo_done_165 (by decide) ?_
          refine mw_lcmp C d_Mo_done_166 ?_
          refine mw_if_ne C 174 d_Mo_done_167 (by decide) (fun h167 => ?_) (fun h167 => ?_)
          ·
            exact mw_to _ (by exact And.intro rfl (And.intro rfl (And.intro rfl (And.intro rfl (And.intro rfl (And.intro rfl (trivial))))))) (F (fun hh => h167 ((lg_cmp_eq _ _).mpr ((lb_is1 _ (by omega)).mpr hh.2))))
          ·
            have hb := (lb_is1 _ (show a_lead cn (σ.1 16 node + d + 1) < 64 from by omega)).mp ((lg_cmp_eq _ _).mp h167)
            refine mw_iconst C (v := nI 1) d_Mo_done_170 (by decide) ?_
            refine mw_goto C 175 d_Mo_done_171 (by decide) ?_
            refine mw_istore C d_Mo_done_175 (by decide) ?_
            refine mw_iload C d_Mo_done_177 rfl ?_
            refine mw_if_eqN C 194 d_Mo_done_179 (by decide) (by omega) (fun h179 => ?_) (fun h179 => ?_)
            · exfalso; omega
            ·
              refine mw_aload_n C 0 d_Mo_done_182 rfl rfl ?_
              refine mw_getr C f_Mo_72 d_Mo_done_183 (by decide) rfl rfl ?_
              refine mw_iload C d_Mo_done_186 rfl ?_
              refine mw_iload C d_Mo_done_188 rfl ?_
              refine mo_ast C rfl h d_Mo_done_190 (by decide) rfl rfl (by omega) (by decide) (fun S h => ?_)
              refine mw_iincN C d_Mo_done_191 rfl (by decide) ?_
              refine mw_idecN C d_Mo_done_194 rfl (by decide) ?_
              refine mw_goto C 109 d_Mo_done_197 (by decide) ?_
              refine mw_to _ (by exact And.intro rfl (And.intro rfl (And.intro rfl (And.intro rfl (And.intro rfl (trivial)))))) (ih (len + 1) _ _ S (by omega) (by omega) (by omega) (by omega) h (aI_21 hI _ _) (by rw [a_up_f _ _ _ _ (by decide)]; exact hc) (fun j hj => ?_) ?_)
              · rw [a_up_at]
                split
                · exact hL
                · exact hls j (by omega)
              · rw [← he, a_chain, if_pos ⟨by omega, hb⟩]
  have hL := a_lead_lt cn (w := w0) hw3
  have h9l := hI.f9 (48 * node + a_lead cn w0)
  have hc3 := hI.cm node
  have L1 : ¬ σ.1 9 (48 * node + a_lead cn w0) = 0 → ∀ (dd i : Nat), i + dd = 4 → mw p l e { frames := 3, cells := 0, slots := 0, locals := 79 } s m args below meth c (MQ below (mw_Qc true D vCl cA ad sh_Mo 22 s.heap.size (S) (mw_Pv (fun S' => mR cn fv (a_done cn σ node w0) S'))) args s 0 0 A) 0 0 D vCl cA A ad sh_Mo 22 9 (27) ([(5, .inl (nI i)), (4, .inl (nI (a_sup σ node w0 (a_lead cn w0) i))), (0, .inr (.inr 0)), (1, .inl (nI node)), (2, .inl (nI w0)), (3, .inl (nI (a_lead cn w0)))]) ([]) (S) := by
    intro hg dd
    induction dd with
    | zero =>
      intro i hi
      have hsl := a_sup_le σ node w0 (a_lead cn w0) i
      obtain rfl : i = 4 := by omega
      refine mw_iload C d_Mo_done_27 rfl ?_
      refine mw_iconst C (v := nI 4) d_Mo_done_29 (by decide) ?_
      refine mw_icmp_geN C 87 d_Mo_done_30 (by decide) (by omega) (by omega) (fun h30 => ?_) (fun h30 => ?_)
      ·
        refine mw_iload C d_Mo_done_87 rfl ?_
        refine mw_iconst C (v := nI 3) d_Mo_done_89 (by decide) ?_
        refine mw_icmp_geN C 94 d_Mo_done_90 (by decide) (by omega) (by omega) (fun h90 => ?_) (fun h90 => ?_)
        ·
          refine mw_iconst C (v := nI 1) d_Mo_done_94 (by decide) ?_
          refine mw_istore C d_Mo_done_95 (by decide) ?_
          refine mw_aload_n C 0 d_Mo_done_97 rfl rfl ?_
          refine mw_getr C f_Mo_72 d_Mo_done_98 (by decide) rfl rfl ?_
          refine mw_iconst C (v := nI 0) d_Mo_done_101 (by decide) ?_
          refine mw_iload_n C 3 d_Mo_done_102 rfl rfl ?_
          refine mo_ast C rfl h d_Mo_done_103 (by decide) rfl rfl (by omega) (by decide) (fun S h => ?_)
          refine mw_iload_n C 2 d_Mo_done_104 rfl rfl ?_
          refine mw_iconst C (v := nI 1) d_Mo_done_105 (by decide) ?_
          refine mw_isubN C d_Mo_done_106 (by omega) ?_
          refine mw_istore C d_Mo_done_107 (by decide) ?_
          refine mw_to _ (by exact And.intro rfl (And.intro rfl (And.intro rfl (And.intro rfl (And.intro rfl (trivial)))))) (L2 (w0 - 1 - σ.1 16 node) 1 (w0 - 1) _ S (by omega) (by omega) (Nat.le_refl _) (by omega) h (aI_21 hI _ _) (a_up_f _ _ _ _ (by decide)) (fun j hj => ?_) ?_)
          · rw [show j = 0 from by omega, a_up_s]
            exact hL
          · rw [a_done, if_neg hg, if_neg (by omega)]
        ·
          refine mw_vret C hR d_Mo_done_93 ?_
          rw [a_done, if_neg hg, if_pos (by omega)]
          exact h
      · exfalso; omega
    | succ dd ih =>
      intro i hi
      have h9i := hI.f9 (48 * node + (16 * w0 - 4 + i))
      refine mw_iload C d_Mo_done_27 rfl ?_
      refine mw_iconst C (v := nI 4) d_Mo_done_29 (by decide) ?_
      refine mw_icmp_geN C 87 d_Mo_done_30 (by decide) (by omega) (by omega) (fun h30 => ?_) (fun h30 => ?_)
      · exfalso; omega
      ·
        refine mw_bipush C (v := nI 16) d_Mo_done_33 (by decide) ?_
        refine mw_iload_n C 2 d_Mo_done_35 rfl rfl ?_
        refine mw_imulN C d_Mo_done_36 ?_
        refine mw_iconst C (v := nI 4) d_Mo_done_37 (by decide) ?_
        refine mw_isubN C d_Mo_done_38 (by omega) ?_
        refine mw_iload C d_Mo_done_39 rfl ?_
        refine mw_iaddN C d_Mo_done_41 ?_
        refine mw_istore C d_Mo_done_42 (by decide) ?_
        refine mw_aload_n C 0 d_Mo_done_44 rfl rfl ?_
        refine mw_getr C f_Mo_36 d_Mo_done_45 (by decide) rfl rfl ?_
        refine mw_bipush C (v := nI 48) d_Mo_done_48 (by decide) ?_
        refine mw_iload_n C 1 d_Mo_done_50 rfl rfl ?_
        refine mw_imulN C d_Mo_done_51 ?_
        refine mw_iload C d_Mo_done_52 rfl ?_
        refine mw_iaddN C d_Mo_done_54 ?_
        refine mo_zald C h d_Mo_done_55 (by decide) rfl rfl (by omega) (by decide) ?_
        refine mw_if_eqN C 81 d_Mo_done_56 (by decide) (by omega) (fun h56 => ?_) (fun h56 => ?_)
        ·
          refine mw_iincN C d_Mo_done_81 rfl (by decide) ?_
          refine mw_goto C 27 d_Mo_done_84 (by decide) ?_
          refine mw_eq _ _ _ (by exact And.intro rfl (And.intro (by show some (Sum.inl _) = _; rw [a_sup, if_neg (fun hh => by omega)]; rfl) (And.intro rfl (And.intro rfl (And.intro rfl (And.intro rfl trivial)))))) rfl rfl (ih (i + 1) (by omega))
        ·
          refine mw_aload_n C 0 d_Mo_done_59 rfl rfl ?_
          refine mw_iload_n C 1 d_Mo_done_60 rfl rfl ?_
          refine mw_lconst C (v := 1) d_Mo_done_61 (by decide) ?_
          refine mw_iload C d_Mo_done_62 rfl ?_
          refine mw_lshl C d_Mo_done_64 ?_
          refine mw_eql (one_shl (by omega)) ?_
          refine mw_iconst C (v := nI 1) d_Mo_done_65 (by decide) ?_
          refine mw_run0l C ix_Mo (mw_invV C (kk := 0) (m_Mo_below l D cA cn fv σ node 1 _ _ (mR_rs h) hn (by decide) (fun q hq => hI.a80 hn hq) hI.pl hI.st) ix_Mo kb_Mo_154 wm_Mo_below wv_Mo_below (by decide) rfl rfl d_Mo_done_66 rfl rfl (Nat.le_of_ble_eq_true rfl) rfl rfl ⟨by decide, by decide⟩ ⟨Nat.zero_le _, Nat.zero_le _⟩) (fun x66 e66 => ?_)
          subst e66
          refine mw_iload_n C 3 d_Mo_done_69 rfl rfl ?_
          refine mw_lshr C d_Mo_done_70 ?_
          refine mw_lconst C (v := 1) d_Mo_done_71 (by decide) ?_
          refine mw_land C d_Mo_done_72 ?_
          refine mw_lconst C (v := 1) d_Mo_done_73 (by decide) ?_
          refine mw_lcmp C d_Mo_done_74 ?_
          refine mw_if_ne C 81 d_Mo_done_75 (by decide) (fun h75 => ?_) (fun h75 => ?_)
          ·
            refine mw_iincN C d_Mo_done_81 rfl (by decide) ?_
            refine mw_goto C 27 d_Mo_done_84 (by decide) ?_
            refine mw_eq _ _ _ (by exact And.intro rfl (And.intro (by show some (Sum.inl _) = _; rw [a_sup, if_neg (fun hh => h75 ((lg_cmp_eq _ _).mpr ((lb_is1 _ (by omega)).mpr hh.2)))]; rfl) (And.intro rfl (And.intro rfl (And.intro rfl (And.intro rfl trivial)))))) rfl rfl (ih (i + 1) (by omega))
          ·
            have hb := (lb_is1 _ (show a_lead cn w0 < 64 from by omega)).mp ((lg_cmp_eq _ _).mp h75)
            refine mw_iincN C d_Mo_done_78 rfl (by decide) ?_
            refine mw_iincN C d_Mo_done_81 rfl (by decide) ?_
            refine mw_goto C 27 d_Mo_done_84 (by decide) ?_
            refine mw_eq _ _ _ (by exact And.intro rfl (And.intro (by show some (Sum.inl _) = _; rw [a_sup, if_pos ⟨by omega, hb⟩]) (And.intro rfl (And.intro rfl (And.intro rfl (And.intro rfl trivial)))))) rfl rfl (ih (i + 1) (by omega))
  refine mw_aload_n C 0 d_Mo_done_0 rfl rfl ?_
  refine mw_iload_n C 2 d_Mo_done_1 rfl rfl ?_
  refine mw_run0i C ix_Mo (mw_invV C (kk := 0) (m_Mo_leader l D cA cn fv σ w0 _ (mR_rs h) hw1 hw3) ix_Mo kb_Mo_151 wm_Mo_leader wv_Mo_leader (by decide) rfl rfl d_Mo_done_2 rfl rfl (Nat.le_of_ble_eq_true rfl) rfl rfl ⟨by decide, by decide⟩ ⟨Nat.zero_le _, Nat.zero_le _⟩) (fun x2 e2 => ?_)
  subst e2
  refine mw_istore_n C 3 d_Mo_done_5 rfl (by decide) ?_
  refine mw_aload_n C 0 d_Mo_done_6 rfl rfl ?_
  refine mw_getr C f_Mo_36 d_Mo_done_7 (by decide) rfl rfl ?_
  refine mw_bipush C (v := nI 48) d_Mo_done_10 (by decide) ?_
  refine mw_iload_n C 1 d_Mo_done_12 rfl rfl ?_
  refine mw_imulN C d_Mo_done_13 ?_
  refine mw_iload_n C 3 d_Mo_done_14 rfl rfl ?_
  refine mw_iaddN C d_Mo_done_15 ?_
  refine mo_zald C h d_Mo_done_16 (by decide) rfl rfl (by omega) (by decide) ?_
  refine mw_if_neN C 21 d_Mo_done_17 (by decide) (by omega) (fun h17 => ?_) (fun h17 => ?_)
  ·
    refine mw_iconst C (v := nI 0) d_Mo_done_21 (by decide) ?_
    refine mw_istore C d_Mo_done_22 (by decide) ?_
    refine mw_iconst C (v := nI 0) d_Mo_done_24 (by decide) ?_
    refine mw_istore C d_Mo_done_25 (by decide) ?_
    exact mw_to _ (by exact And.intro rfl (And.intro rfl (And.intro rfl (And.intro rfl (And.intro rfl (And.intro rfl (trivial))))))) (L1 (by omega) 4 0 rfl)
  ·
    refine mw_vret C hR d_Mo_done_20 ?_
    rw [a_done, if_pos h17]
    exact h
