/-! votes, mail, transfers that wait -/
def vo_f (f : Nat → Int32) (j : Nat) (v : Int32) : Nat → Int32 := if f j = 0 then upd f j v else f
def vo_n (f : Nat → Int32) (q : Nat) (v : Int32) : Nat → Nat
  | 0 => 0
  | k + 1 => vo_n f q v k + (if f (4 * q + k) = v then 1 else 0)
theorem vo_n_le (f : Nat → Int32) (q : Nat) (v : Int32) : ∀ k, vo_n f q v k ≤ k
  | 0 => Nat.le_refl 0
  | k + 1 => by
    have := vo_n_le f q v k
    unfold vo_n
    split <;> omega
set_option maxHeartbeats 4000000 in
set_option maxRecDepth 100000 in
theorem m_Vo_note (l : Launch) (D : va_G) (cA : Nat → ClassId) (sd q : Nat) (v : Int32) (S : mw_S) (hs : sd < 4) (hq : q < 48) : mw_M true l lw_tbl y_Vo_note b_Vo_note 7 (some .int) { frames := 0, cells := 0, slots := 0, locals := 0 } D vCl cA sh_Vo 2 [.inr (.inr 0), .inl (nI sd), .inl (nI q), .inl v] (S) (mw_Pi (fun r S' => S' = mw_rI S 1 (vo_f (S.1 1) (4 * q + sd) v) ∧ r = (if vo_f (S.1 1) (4 * q + sd) v (4 * q + sd) = v then nI (vo_n (vo_f (S.1 1) (4 * q + sd) v) q v 4) else nI 0))) := by
  refine mw_M_of (by decide) (Nat.le_of_ble_eq_true rfl) ?_
  intro p e s m args below meth c A ad C hR
  have K : ∀ S1 : mw_S, S1 = mw_rI S 1 (vo_f (S.1 1) (4 * q + sd) v) → mw p l e { frames := 0, cells := 0, slots := 0, locals := 0 } s m args below meth c (MQ below (mw_Qc true D vCl cA ad sh_Vo 2 s.heap.size (S) (mw_Pi (fun r S' => S' = mw_rI S 1 (vo_f (S.1 1) (4 * q + sd) v) ∧ r = (if vo_f (S.1 1) (4 * q + sd) v (4 * q + sd) = v then nI (vo_n (vo_f (S.1 1) (4 * q + sd) v) q v 4) else nI 0)))) args s 0 0 A) 0 0 D vCl cA A ad sh_Vo 2 7 (27) ([(4, .inl (nI (4 * q))), (0, .inr (.inr 0)), (1, .inl (nI sd)), (2, .inl (nI q)), (3, .inl v)]) ([]) (S1) := by
    intro S1 hS1
    have hf1 : S1.1 1 = vo_f (S.1 1) (4 * q + sd) v := by rw [hS1]; exact mw_rI_s S 1 _
    have L : ∀ (dd i cnt : Nat), i + dd = 4 → cnt = vo_n (S1.1 1) q v i → S1.1 1 (4 * q + sd) = v → mw p l e { frames := 0, cells := 0, slots := 0, locals := 0 } s m args below meth c (MQ below (mw_Qc true D vCl cA ad sh_Vo 2 s.heap.size (S) (mw_Pi (fun r S' => S' = mw_rI S 1 (vo_f (S.1 1) (4 * q + sd) v) ∧ r = (if vo_f (S.1 1) (4 * q + sd) v (4 * q + sd) = v then nI (vo_n (vo_f (S.1 1) (4 * q + sd) v) q v 4) else nI 0)))) args s 0 0 A) 0 0 D vCl cA A ad sh_Vo 2 7 (48) ([(6, .inl (nI i)), (5, .inl (nI cnt)), (4, .inl (nI (4 * q))), (0, .inr (.inr 0)), (1, .inl (nI sd)), (2, .inl (nI q)), (3, .inl v)]) ([]) (S1) := by
      intro dd
      induction dd with
      | zero =>
        intro i cnt hi hc hv
        refine mw_iload C d_Vo_note_48 rfl ?_
        refine mw_iconst C (v := nI 4) d_Vo_note_50 (by decide) ?_
        refine mw_icmp_geN C 77 d_Vo_note_51 (by decide) (by omega) (by omega) (fun h51 => ?_) (fun h51 => ?_)
        ·
          refine mw_iload C d_Vo_note_77 rfl ?_
          refine mw_iret C hR d_Vo_note_79 ?_
          have e4 : i = 4 := by omega
          subst e4
          refine ⟨hS1, ?_⟩
          rw [← hf1, if_pos hv, hc]
        · exfalso; omega
      | succ dd ih =>
        intro i cnt hi hc hv
        refine mw_iload C d_Vo_note_48 rfl ?_
        refine mw_iconst C (v := nI 4) d_Vo_note_50 (by decide) ?_
        refine mw_icmp_geN C 77 d_Vo_note_51 (by decide) (by omega) (by omega) (fun h51 => ?_) (fun h51 => ?_)
        · exfalso; omega
        ·
          refine mw_aload_n C 0 d_Vo_note_54 rfl rfl ?_
          refine mw_getr C f_Vo_9 d_Vo_note_55 (by decide) rfl rfl ?_
          refine mw_iload C d_Vo_note_58 rfl ?_
          refine mw_iload C d_Vo_note_60 rfl ?_
          refine mw_iaddN C d_Vo_note_62 ?_
          refine mw_ialdN C d_Vo_note_63 (by decide) rfl (by omega) (by decide) ?_
          refine mw_iload_n C 3 d_Vo_note_64 rfl rfl ?_
          refine mw_icmp_ne C 71 d_Vo_note_65 (by decide) (fun h65 => ?_) (fun h65 => ?_)
          ·
            refine mw_iincN C d_Vo_note_71 rfl (by decide) ?_
            refine mw_goto C 48 d_Vo_note_74 (by decide) ?_
            exact mw_to _ (by exact And.intro rfl (And.intro rfl (And.intro rfl (And.intro rfl (And.intro rfl (And.intro rfl (And.intro rfl (trivial)))))))) (ih (i + 1) cnt (by omega) (by unfold vo_n; rw [if_neg h65, hc]; rfl) hv)
          ·
            refine mw_iincN C d_Vo_note_68 rfl (by decide) ?_
            refine mw_iincN C d_Vo_note_71 rfl (by decide) ?_
            refine mw_goto C 48 d_Vo_note_74 (by decide) ?_
            exact mw_to _ (by exact And.intro rfl (And.intro rfl (And.intro rfl (And.intro rfl (And.intro rfl (And.intro rfl (And.intro rfl (trivial)))))))) (ih (i + 1) (cnt + 1) (by omega) (by unfold vo_n; rw [if_pos h65, hc]) hv)
    refine mw_aload_n C 0 d_Vo_note_27 rfl rfl ?_
    refine mw_getr C f_Vo_9 d_Vo_note_28 (by decide) rfl rfl ?_
    refine mw_iload C d_Vo_note_31 rfl ?_
    refine mw_iload_n C 1 d_Vo_note_33 rfl rfl ?_
    refine mw_iaddN C d_Vo_note_34 ?_
    refine mw_ialdN C d_Vo_note_35 (by decide) rfl (by omega) (by decide) ?_
    refine mw_iload_n C 3 d_Vo_note_36 rfl rfl ?_
    refine mw_icmp_eq C 42 d_Vo_note_37 (by decide) (fun h37 => ?_) (fun h37 => ?_)
    ·
      refine mw_iconst C (v := nI 0) d_Vo_note_42 (by decide) ?_
      refine mw_istore C d_Vo_note_43 (by decide) ?_
      refine mw_iconst C (v := nI 0) d_Vo_note_45 (by decide) ?_
      refine mw_istore C d_Vo_note_46 (by decide) ?_
      exact mw_to _ (by exact And.intro rfl (And.intro rfl (And.intro rfl (And.intro rfl (And.intro rfl (And.intro rfl (And.intro rfl (trivial)))))))) (L 4 0 0 rfl rfl h37)
    ·
      refine mw_iconst C (v := nI 0) d_Vo_note_40 (by decide) ?_
      refine mw_iret C hR d_Vo_note_41 ?_
      refine ⟨hS1, ?_⟩
      rw [← hf1, if_neg h37]
  refine mw_iconst C (v := nI 4) d_Vo_note_0 (by decide) ?_
  refine mw_iload_n C 2 d_Vo_note_1 rfl rfl ?_
  refine mw_imulN C d_Vo_note_2 ?_
  refine mw_istore C d_Vo_note_3 (by decide) ?_
  refine mw_aload_n C 0 d_Vo_note_5 rfl rfl ?_
  refine mw_getr C f_Vo_9 d_Vo_note_6 (by decide) rfl rfl ?_
  refine mw_iload C d_Vo_note_9 rfl ?_
  refine mw_iload_n C 1 d_Vo_note_11 rfl rfl ?_
  refine mw_iaddN C d_Vo_note_12 ?_
  refine mw_ialdN C d_Vo_note_13 (by decide) rfl (by omega) (by decide) ?_
  refine mw_if_ne C 27 d_Vo_note_14 (by decide) (fun h14 => ?_) (fun h14 => ?_)
  · exact mw_to _ (by exact And.intro rfl (And.intro rfl (And.intro rfl (And.intro rfl (And.intro rfl (trivial)))))) (K S (by rw [vo_f, if_neg h14, mw_rI_self]))
  ·
    refine mw_aload_n C 0 d_Vo_note_17 rfl rfl ?_
    refine mw_getr C f_Vo_9 d_Vo_note_18 (by decide) rfl rfl ?_
    refine mw_iload C d_Vo_note_21 rfl ?_
    refine mw_iload_n C 1 d_Vo_note_23 rfl rfl ?_
    refine mw_iaddN C d_Vo_note_24 ?_
    refine mw_iload_n C 3 d_Vo_note_25 rfl rfl ?_
    refine mw_iastN C rfl d_Vo_note_26 (by decide) rfl (by omega) (by decide) ?_
    exact mw_to _ (by exact And.intro rfl (And.intro rfl (And.intro rfl (And.intro rfl (And.intro rfl (trivial)))))) (K _ (by rw [vo_f, if_pos h14]; rfl))
theorem ma_pack (a b c v : Nat) (ha : a < 4) (hb : b < 4) (hc : c < 4) : ((v * 2 ^ 6 ||| c * 2 ^ 4) ||| b * 2 ^ 2) ||| a = v * 64 + c * 16 + b * 4 + a := by
  have h1 : v * 2 ^ 6 ||| c * 2 ^ 4 = v * 2 ^ 6 + c * 2 ^ 4 := by
    rw [Nat.mul_comm v]; exact (Nat.two_pow_add_eq_or_of_lt (by omega) v).symm
  have h2 : v * 2 ^ 6 + c * 2 ^ 4 = 2 ^ 4 * (v * 4 + c) := by omega
  have h3 : 2 ^ 4 * (v * 4 + c) ||| b * 2 ^ 2 = 2 ^ 4 * (v * 4 + c) + b * 2 ^ 2 := (Nat.two_pow_add_eq_or_of_lt (by omega) _).symm
  have h4 : 2 ^ 4 * (v * 4 + c) + b * 2 ^ 2 = 2 ^ 2 * ((v * 4 + c) * 4 + b) := by omega
  have h5 : 2 ^ 2 * ((v * 4 + c) * 4 + b) ||| a = 2 ^ 2 * ((v * 4 + c) * 4 + b) + a := (Nat.two_pow_add_eq_or_of_lt (by omega) _).symm
  rw [h1, h2, h3, h4, h5, ← h4, ← h2]
set_option maxHeartbeats 4000000 in
set_option maxRecDepth 100000 in
theorem m_Ma_send (l : Launch) (D : va_G) (cA : Nat → ClassId) (a b c0 v : Nat) (S : mw_S) (cn : Nat) (ha : a < 4) (hb : b < 4) (hc : c0 < 4) (hv : v < 2 ^ 20) (hn : cn < 2240) (h0 : S.1 0 2 = nI cn) : mw_M true l lw_tbl y_Ma_send b_Ma_send 5 none { frames := 0, cells := 0, slots := 0, locals := 0 } D vCl cA sh_Ma 2 [.inr (.inr 0), .inl (nI a), .inl (nI b), .inl (nI c0), .inl (nI v)] (S) (mw_Pv (fun S' => S' = mw_uI (mw_uI S 1 cn (nI (v * 64 + c0 * 16 + b * 4 + a))) 0 2 (nI (cn + 1)))) := by
  refine mw_M_of (by decide) (Nat.le_of_ble_eq_true rfl) ?_
  intro p e s m args below meth c A ad C hR
  refine mw_aload_n C 0 d_Ma_send_0 rfl rfl ?_
  refine mw_geti C f_Ma_19 d_Ma_send_1 (by decide) rfl rfl ?_
  refine mw_eqi h0 ?_
  refine mw_sipush C (v := nI 2240) d_Ma_send_4 (by decide) ?_
  refine mw_icmp_geN C 44 d_Ma_send_7 (by decide) (by omega) (by omega) (fun h7 => ?_) (fun h7 => ?_)
  · exfalso; omega
  ·
    refine mw_aload_n C 0 d_Ma_send_10 rfl rfl ?_
    refine mw_getr C f_Ma_9 d_Ma_send_11 (by decide) rfl rfl ?_
    refine mw_aload_n C 0 d_Ma_send_14 rfl rfl ?_
    refine mw_geti C f_Ma_19 d_Ma_send_15 (by decide) rfl rfl ?_
    refine mw_eqi h0 ?_
    refine mw_iload C d_Ma_send_18 rfl ?_
    refine mw_bipush C (v := nI 6) d_Ma_send_20 (by decide) ?_
    refine mw_ishl C d_Ma_send_22 ?_
    refine mw_eqi (pk_shlN (nI 6 &&& 31) 6 (by decide) (by omega)) ?_
    refine mw_iload_n C 3 d_Ma_send_23 rfl rfl ?_
    refine mw_iconst C (v := nI 4) d_Ma_send_24 (by decide) ?_
    refine mw_ishl C d_Ma_send_25 ?_
    refine mw_eqi (pk_shlN (nI 4 &&& 31) 4 (by decide) (by omega)) ?_
    refine mw_ior C d_Ma_send_26 ?_
    refine mw_eqi (nx_or _ _) ?_
    refine mw_iload_n C 2 d_Ma_send_27 rfl rfl ?_
    refine mw_iconst C (v := nI 2) d_Ma_send_28 (by decide) ?_
    refine mw_ishl C d_Ma_send_29 ?_
    refine mw_eqi (pk_shlN (nI 2 &&& 31) 2 (by decide) (by omega)) ?_
    refine mw_ior C d_Ma_send_30 ?_
    refine mw_eqi (nx_or _ _) ?_
    refine mw_iload_n C 1 d_Ma_send_31 rfl rfl ?_
    refine mw_ior C d_Ma_send_32 ?_
    refine mw_eqi (nx_or _ _) ?_
    refine mw_eqi (congrArg nI (ma_pack a b c0 v ha hb hc)) ?_
    refine mw_iastN C rfl d_Ma_send_33 (by decide) rfl (by omega) (by decide) ?_
    refine mw_aload_n C 0 d_Ma_send_34 rfl rfl ?_
    refine mw_dup C d_Ma_send_35 rfl ?_
    refine mw_geti C f_Ma_19 d_Ma_send_36 (by decide) rfl rfl ?_
    refine mw_eqi (show _ = nI cn from h0) ?_
    refine mw_iconst C (v := nI 1) d_Ma_send_39 (by decide) ?_
    refine mw_iaddN C d_Ma_send_40 ?_
    refine mw_puti C rfl f_Ma_19 p_Ma_2 d_Ma_send_41 (by decide) rfl rfl ?_
    refine mw_vret C hR d_Ma_send_44 ?_
    rfl
def ma_cast (sl : Int32) (a b v : Nat) : Nat → (Nat → Int32) × Nat → (Nat → Int32) × Nat
  | 0, x => x
  | c + 1, x => if nI c = sl then ma_cast sl a b v c x else (upd (ma_cast sl a b v c x).1 (ma_cast sl a b v c x).2 (nI (v * 64 + c * 16 + b * 4 + a)), (ma_cast sl a b v c x).2 + 1)
theorem ma_cast_le (sl : Int32) (a b v : Nat) (x : (Nat → Int32) × Nat) : ∀ c, (ma_cast sl a b v c x).2 ≤ x.2 + c
  | 0 => Nat.le_refl _
  | c + 1 => by
    have := ma_cast_le sl a b v x c
    unfold ma_cast
    split <;> (try dsimp only) <;> omega
theorem ix_Ma_Ma : mw_ix sh_Ma 2 sh_Ma 2 [0, 1] := mw_ix_of (by decide +kernel)
set_option maxHeartbeats 4000000 in
set_option maxRecDepth 100000 in
theorem m_Ma_broadcast (l : Launch) (D : va_G) (cA : Nat → ClassId) (a b v : Nat) (sl : Int32) (S : mw_S) (cn : Nat) (ha : a < 4) (hb : b < 4) (hv : v < 2 ^ 20) (hn : cn + 4 ≤ 2240) (h0 : S.1 0 2 = nI cn) (hsl : S.1 0 0 = sl) : mw_M true l lw_tbl y_Ma_broadcast b_Ma_broadcast 5 none { frames := 1, cells := 0, slots := 0, locals := 24 } D vCl cA sh_Ma 2 [.inr (.inr 0), .inl (nI a), .inl (nI b), .inl (nI v)] (S) (mw_Pv (fun S' => S' = mw_uI (mw_rI S 1 (ma_cast sl a b v 4 (S.1 1, cn)).1) 0 2 (nI (ma_cast sl a b v 4 (S.1 1, cn)).2))) := by
  refine mw_M_of (by decide) (Nat.le_of_ble_eq_true rfl) ?_
  intro p e s m args below meth c A ad C hR
  have L : ∀ (dd i : Nat), i + dd = 4 → mw p l e { frames := 1, cells := 0, slots := 0, locals := 24 } s m args below meth c (MQ below (mw_Qc true D vCl cA ad sh_Ma 2 s.heap.size (S) (mw_Pv (fun S' => S' = mw_uI (mw_rI S 1 (ma_cast sl a b v 4 (S.1 1, cn)).1) 0 2 (nI (ma_cast sl a b v 4 (S.1 1, cn)).2)))) args s 0 0 A) 0 0 D vCl cA A ad sh_Ma 2 5 (3) ([(4, .inl (nI i)), (0, .inr (.inr 0)), (1, .inl (nI a)), (2, .inl (nI b)), (3, .inl (nI v))]) ([]) (mw_uI (mw_rI S 1 (ma_cast sl a b v i (S.1 1, cn)).1) 0 2 (nI (ma_cast sl a b v i (S.1 1, cn)).2)) := by
    intro dd
    induction dd with
    | zero =>
      intro i hi
      refine mw_iload C d_Ma_broadcast_3 rfl ?_
      refine mw_iconst C (v := nI 4) d_Ma_broadcast_5 (by decide) ?_
      refine mw_icmp_geN C 33 d_Ma_broadcast_6 (by decide) (by omega) (by omega) (fun h6 => ?_) (fun h6 => ?_)
      ·
        refine mw_vret C hR d_Ma_broadcast_33 ?_
        have e4 : i = 4 := by omega
        subst e4
        rfl
      · exfalso; omega
    | succ dd ih =>
      intro i hi
      have hle := ma_cast_le sl a b v (S.1 1, cn) i
      refine mw_iload C d_Ma_broadcast_3 rfl ?_
      refine mw_iconst C (v := nI 4) d_Ma_broadcast_5 (by decide) ?_
      refine mw_icmp_geN C 33 d_Ma_broadcast_6 (by decide) (by omega) (by omega) (fun h6 => ?_) (fun h6 => ?_)
      · exfalso; omega
      ·
        refine mw_iload C d_Ma_broadcast_9 rfl ?_
        refine mw_aload_n C 0 d_Ma_broadcast_11 rfl rfl ?_
        refine mw_geti C f_Ma_15 d_Ma_broadcast_12 (by decide) rfl rfl ?_
        refine mw_eqi (show _ = sl from hsl) ?_
        refine mw_icmp_eq C 27 d_Ma_broadcast_15 (by decide) (fun h15 => ?_) (fun h15 => ?_)
        ·
          refine mw_iincN C d_Ma_broadcast_27 rfl (by decide) ?_
          refine mw_goto C 3 d_Ma_broadcast_30 (by decide) ?_
          refine mw_eq _ _ _ (by exact And.intro rfl (And.intro rfl (And.intro rfl (And.intro rfl (And.intro rfl (trivial)))))) rfl ?_ (ih (i + 1) (by omega))
          simp only [ma_cast, if_pos h15]
        ·
          refine mw_aload_n C 0 d_Ma_broadcast_18 rfl rfl ?_
          refine mw_iload_n C 1 d_Ma_broadcast_19 rfl rfl ?_
          refine mw_iload_n C 2 d_Ma_broadcast_20 rfl rfl ?_
          refine mw_iload C d_Ma_broadcast_21 rfl ?_
          refine mw_iload_n C 3 d_Ma_broadcast_23 rfl rfl ?_
          refine mw_runv C ix_Ma_Ma rfl (mw_invV C (kk := 0) (m_Ma_send l D cA a b i v _ (ma_cast sl a b v i (S.1 1, cn)).2 ha hb (by omega) hv (by simp only at hle; omega) rfl) ix_Ma_Ma kb_Ma_22 wm_Ma_send wv_Ma_send (by decide) rfl rfl d_Ma_broadcast_24 rfl rfl (Nat.le_of_ble_eq_true rfl) rfl rfl ⟨by decide, by decide⟩ ⟨Nat.zero_le _, Nat.zero_le _⟩) (fun S24 e24 => ?_)
          subst e24
          refine mw_iincN C d_Ma_broadcast_27 rfl (by decide) ?_
          refine mw_goto C 3 d_Ma_broadcast_30 (by decide) ?_
          refine mw_eq _ _ _ (by exact And.intro rfl (And.intro rfl (And.intro rfl (And.intro rfl (And.intro rfl (trivial)))))) rfl ?_ (ih (i + 1) (by omega))
          rw [mw_mg_uI ix_Ma_Ma (k := 0) (i := 0) (by decide) rfl, mw_mg_uI ix_Ma_Ma (k := 1) (i := 1) (by decide) rfl, mw_mg_rs]
          simp only [ma_cast, if_neg h15]
          refine Prod.ext ?_ rfl
          funext z
          simp only [mw_uI, mw_rI]
          by_cases z0 : z = 0
          · subst z0; simp [upd_upd]
          · by_cases z1 : z = 1
            · subst z1; simp
            · simp [z0, z1]
  refine mw_iconst C (v := nI 0) d_Ma_broadcast_0 (by decide) ?_
  refine mw_istore C d_Ma_broadcast_1 (by decide) ?_
  refine mw_eq _ _ _ (by exact And.intro rfl (And.intro rfl (And.intro rfl (And.intro rfl (And.intro rfl (trivial)))))) rfl ?_ (L 4 0 rfl)
  refine Prod.ext ?_ rfl
  funext z
  simp only [mw_uI, mw_rI, ma_cast]
  by_cases z0 : z = 0
  · subst z0
    rw [if_pos rfl]
    funext j
    simp only [upd]
    by_cases j2 : j = 2
    · rw [if_pos j2, j2, h0]
    · rw [if_neg j2]; rfl
  · rw [if_neg z0]
    by_cases z1 : z = 1
    · rw [if_pos z1, z1]
    · rw [if_neg z1]

set_option maxHeartbeats 4000000 in
set_option maxRecDepth 100000 in
theorem m_Ma_take (l : Launch) (D : va_G) (cA : Nat → ClassId) (k t : Nat) (S : mw_S) (cn : Nat) (hk : k < cn) (hn : cn ≤ 2240) (h0 : S.1 0 2 = nI cn) : mw_M true l lw_tbl y_Ma_take b_Ma_take 3 (some .int) { frames := 1, cells := 0, slots := 0, locals := 40 } D vCl cA sh_Ma 2 [.inr (.inr 0), .inl (nI k)] (S) (mw_Pi (fun r S' => r = S.1 1 k ∧ S' = mw_rI (mw_uI S 0 2 (nI (cn - 1))) 1 (va_cpy (S.1 1) (S.1 1) (k + 1) k (cn - 1 - k)))) := by
  refine mw_M_of (by decide) (Nat.le_of_ble_eq_true rfl) ?_
  intro p e s m args below meth c A ad C hR
  refine mw_aload_n C 0 d_Ma_take_0 rfl rfl ?_
  refine mw_getr C f_Ma_9 d_Ma_take_1 (by decide) rfl rfl ?_
  refine mw_iload_n C 1 d_Ma_take_4 rfl rfl ?_
  refine mw_ialdN C d_Ma_take_5 (by decide) rfl (by omega) (by decide) ?_
  refine mw_istore_n C 2 d_Ma_take_6 rfl (by decide) ?_
  refine mw_aload_n C 0 d_Ma_take_7 rfl rfl ?_
  refine mw_dup C d_Ma_take_8 rfl ?_
  refine mw_geti C f_Ma_19 d_Ma_take_9 (by decide) rfl rfl ?_
  refine mw_eqi h0 ?_
  refine mw_iconst C (v := nI 1) d_Ma_take_12 (by decide) ?_
  refine mw_isubN C d_Ma_take_13 (by omega) ?_
  refine mw_puti C rfl f_Ma_19 p_Ma_2 d_Ma_take_14 (by decide) rfl rfl ?_
  refine mw_aload_n C 0 d_Ma_take_17 rfl rfl ?_
  refine mw_getr C f_Ma_9 d_Ma_take_18 (by decide) rfl rfl ?_
  refine mw_iload_n C 1 d_Ma_take_21 rfl rfl ?_
  refine mw_iconst C (v := nI 1) d_Ma_take_22 (by decide) ?_
  refine mw_iaddN C d_Ma_take_23 ?_
  refine mw_aload_n C 0 d_Ma_take_24 rfl rfl ?_
  refine mw_getr C f_Ma_9 d_Ma_take_25 (by decide) rfl rfl ?_
  refine mw_iload_n C 1 d_Ma_take_28 rfl rfl ?_
  refine mw_aload_n C 0 d_Ma_take_29 rfl rfl ?_
  refine mw_geti C f_Ma_19 d_Ma_take_30 (by decide) rfl rfl ?_
  refine mw_eqi (show _ = nI (cn - 1) from rfl) ?_
  refine mw_iload_n C 1 d_Ma_take_33 rfl rfl ?_
  refine mw_isubN C d_Ma_take_34 (by omega) ?_
  refine mw_copy C rfl kl_Ma_26 ka_native ka_static ka_init d_Ma_take_35 (by decide) rfl (nI_pos (by omega)) (nI_pos (by omega)) (nI_pos (by omega)) (by rw [nI_clamp (by omega), nI_clamp (by omega)]; omega) (by rw [nI_clamp (by omega), nI_clamp (by omega)]; omega) (by decide) (show 0 + (nativeFrameWords "java/lang/System" "arraycopy" 5 + 11) ≤ 40 from by decide +kernel) ?_
  refine mw_iload_n C 2 d_Ma_take_38 rfl rfl ?_
  refine mw_iret C hR d_Ma_take_39 ?_
  refine ⟨rfl, ?_⟩
  rw [nI_clamp (by omega), nI_clamp (by omega), nI_clamp (by omega)]
  rfl
set_option maxHeartbeats 4000000 in
set_option maxRecDepth 100000 in
theorem m_Tq_takeFirstOrNone (l : Launch) (D : va_G) (cA : Nat → ClassId) (S : mw_S) (cn : Nat) (hn : cn ≤ 12) (h0 : S.1 0 1 = nI cn) : mw_M true l lw_tbl y_Tq_takeFirstOrNone b_Tq_takeFirstOrNone 2 (some .int) { frames := 1, cells := 0, slots := 0, locals := 40 } D vCl cA sh_Tq 2 [.inr (.inr 0)] (S) (mw_Pi (fun r S' => (cn = 0 ∧ r = nI 0 ∧ S' = S) ∨ (0 < cn ∧ r = S.1 1 0 ∧ S' = mw_rI (mw_uI S 0 1 (nI (cn - 1))) 1 (va_cpy (S.1 1) (S.1 1) 1 0 (cn - 1))))) := by
  refine mw_M_of (by decide) (Nat.le_of_ble_eq_true rfl) ?_
  intro p e s m args below meth c A ad C hR
  refine mw_aload_n C 0 d_Tq_takeFirstOrNone_0 rfl rfl ?_
  refine mw_geti C f_Tq_15 d_Tq_takeFirstOrNone_1 (by decide) rfl rfl ?_
  refine mw_eqi h0 ?_
  refine mw_if_neN C 9 d_Tq_takeFirstOrNone_4 (by decide) (by omega) (fun h4 => ?_) (fun h4 => ?_)
  ·
    refine mw_aload_n C 0 d_Tq_takeFirstOrNone_9 rfl rfl ?_
    refine mw_getr C f_Tq_9 d_Tq_takeFirstOrNone_10 (by decide) rfl rfl ?_
    refine mw_iconst C (v := nI 0) d_Tq_takeFirstOrNone_13 (by decide) ?_
    refine mw_ialdN C d_Tq_takeFirstOrNone_14 (by decide) rfl (by omega) (by decide) ?_
    refine mw_istore_n C 1 d_Tq_takeFirstOrNone_15 rfl (by decide) ?_
    refine mw_aload_n C 0 d_Tq_takeFirstOrNone_16 rfl rfl ?_
    refine mw_dup C d_Tq_takeFirstOrNone_17 rfl ?_
    refine mw_geti C f_Tq_15 d_Tq_takeFirstOrNone_18 (by decide) rfl rfl ?_
    refine mw_eqi (show _ = nI cn from h0) ?_
    refine mw_iconst C (v := nI 1) d_Tq_takeFirstOrNone_21 (by decide) ?_
    refine mw_isubN C d_Tq_takeFirstOrNone_22 (by omega) ?_
    refine mw_puti C rfl f_Tq_15 p_Tq_1 d_Tq_takeFirstOrNone_23 (by decide) rfl rfl ?_
    refine mw_aload_n C 0 d_Tq_takeFirstOrNone_26 rfl rfl ?_
    refine mw_getr C f_Tq_9 d_Tq_takeFirstOrNone_27 (by decide) rfl rfl ?_
    refine mw_iconst C (v := nI 1) d_Tq_takeFirstOrNone_30 (by decide) ?_
    refine mw_aload_n C 0 d_Tq_takeFirstOrNone_31 rfl rfl ?_
    refine mw_getr C f_Tq_9 d_Tq_takeFirstOrNone_32 (by decide) rfl rfl ?_
    refine mw_iconst C (v := nI 0) d_Tq_takeFirstOrNone_35 (by decide) ?_
    refine mw_aload_n C 0 d_Tq_takeFirstOrNone_36 rfl rfl ?_
    refine mw_geti C f_Tq_15 d_Tq_takeFirstOrNone_37 (by decide) rfl rfl ?_
    refine mw_eqi (show _ = nI (cn - 1) from rfl) ?_
    refine mw_copy C rfl kl_Tq_19 ka_native ka_static ka_init d_Tq_takeFirstOrNone_40 (by decide) rfl (nI_pos (by omega)) (nI_pos (by omega)) (nI_pos (by omega)) (by rw [nI_clamp (by omega), nI_clamp (by omega)]; omega) (by rw [nI_clamp (by omega), nI_clamp (by omega)]; omega) (by decide) (show 0 + (nativeFrameWords "java/lang/System" "arraycopy" 5 + 11) ≤ 40 from by decide +kernel) ?_
    refine mw_iload_n C 1 d_Tq_takeFirstOrNone_43 rfl rfl ?_
    refine mw_iret C hR d_Tq_takeFirstOrNone_44 ?_
    refine Or.inr ⟨h4, rfl, ?_⟩
    rw [nI_clamp (by omega), nI_clamp (by omega), nI_clamp (by omega)]
    rfl
  ·
    refine mw_iconst C (v := nI 0) d_Tq_takeFirstOrNone_7 (by decide) ?_
    refine mw_iret C hR d_Tq_takeFirstOrNone_8 ?_
    exact Or.inl ⟨h4, rfl, rfl⟩
