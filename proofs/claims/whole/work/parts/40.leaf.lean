/-! the class's small methods -/
def sh0 : Nat → mw_H := fun _ => .inr (0, [])
def sh_Ve : Nat → mw_H := fun k => [.inr (5, [.inr 1, .inr 2, .inr 3, .inr 4, .inl 0]), .inl (0, 73, .inl 0), .inl (0, 73, .inl 0), .inl (1, 73, .inl 1), .inl (0, 73, .inl 0)].getD k (.inr (0, []))
def sh_Ma : Nat → mw_H := fun k => [.inr (2, [.inl 0, .inr 1, .inl 0]), .inl (0, 2240, .inl 0)].getD k (.inr (0, []))
def sh_Tq : Nat → mw_H := fun k => [.inr (4, [.inr 1, .inl 0]), .inl (0, 12, .inl 0)].getD k (.inr (0, []))
def sh_Vo : Nat → mw_H := fun k => [.inr (6, [.inr 1]), .inl (0, 192, .inl 0)].getD k (.inr (0, []))
set_option maxHeartbeats 4000000 in
set_option maxRecDepth 100000 in
theorem m_Wl_isNode (l : Launch) (D : va_G) (cA : Nat → ClassId) (x : Int32) (S : mw_S) : mw_M false l lw_tbl y_Wl_isNode b_Wl_isNode 1 (some .boolean) { frames := 0, cells := 0, slots := 0, locals := 0 } D vCl cA sh0 0 [.inl x] (S) (mw_Pi (fun r _ => (r = nI 1 ∧ ∃ k, k < 4 ∧ x = nI k) ∨ (r = nI 0 ∧ ¬ ∃ k, k < 4 ∧ x = nI k))) := by
  refine mw_M_of (by decide) (Nat.le_of_ble_eq_true rfl) ?_
  intro p e s m args below meth c A ad C hR
  refine mw_iload_n C 0 d_Wl_isNode_0 rfl rfl ?_
  refine mw_if_lt C 13 d_Wl_isNode_1 (by decide) (fun h1 => ?_) (fun h1 => ?_)
  ·
    refine mw_iconst C (v := nI 0) d_Wl_isNode_13 (by decide) ?_
    refine mw_zret C hR d_Wl_isNode_14 (by decide) ?_
    exact Or.inr ⟨rfl, fun ⟨k, hk, e⟩ => by rw [e] at h1; exact nI_pos (by omega) h1⟩
  ·
    refine mw_iload_n C 0 d_Wl_isNode_4 rfl rfl ?_
    refine mw_iconst C (v := nI 4) d_Wl_isNode_5 (by decide) ?_
    refine mw_icmp_ge C 13 d_Wl_isNode_6 (by decide) (fun h6 => ?_) (fun h6 => ?_)
    ·
      refine mw_iconst C (v := nI 0) d_Wl_isNode_13 (by decide) ?_
      refine mw_zret C hR d_Wl_isNode_14 (by decide) ?_
      exact Or.inr ⟨rfl, fun ⟨k, hk, e⟩ => by rw [e] at h6; exact nI_ge hk (by decide) h6⟩
    ·
      refine mw_iconst C (v := nI 1) d_Wl_isNode_9 (by decide) ?_
      refine mw_goto C 14 d_Wl_isNode_10 (by decide) ?_
      refine mw_zret C hR d_Wl_isNode_14 (by decide) ?_
      exact Or.inl ⟨rfl, by
        rcases pk_ix x (n := 4) (by decide) with h | h | h
        · exact absurd h h1
        · exact absurd h h6
        · exact h⟩
set_option maxHeartbeats 4000000 in
set_option maxRecDepth 100000 in
theorem m_Wl_isAccount (l : Launch) (D : va_G) (cA : Nat → ClassId) (x : Int32) (S : mw_S) : mw_M false l lw_tbl y_Wl_isAccount b_Wl_isAccount 1 (some .boolean) { frames := 0, cells := 0, slots := 0, locals := 0 } D vCl cA sh0 0 [.inl x] (S) (mw_Pi (fun r _ => (r = nI 1 ∧ ∃ k, k < 4 ∧ x = nI k) ∨ (r = nI 0 ∧ ¬ ∃ k, k < 4 ∧ x = nI k))) := by
  refine mw_M_of (by decide) (Nat.le_of_ble_eq_true rfl) ?_
  intro p e s m args below meth c A ad C hR
  refine mw_iload_n C 0 d_Wl_isAccount_0 rfl rfl ?_
  refine mw_if_lt C 13 d_Wl_isAccount_1 (by decide) (fun h1 => ?_) (fun h1 => ?_)
  ·
    refine mw_iconst C (v := nI 0) d_Wl_isAccount_13 (by decide) ?_
    refine mw_zret C hR d_Wl_isAccount_14 (by decide) ?_
    exact Or.inr ⟨rfl, fun ⟨k, hk, e⟩ => by rw [e] at h1; exact nI_pos (by omega) h1⟩
  ·
    refine mw_iload_n C 0 d_Wl_isAccount_4 rfl rfl ?_
    refine mw_iconst C (v := nI 4) d_Wl_isAccount_5 (by decide) ?_
    refine mw_icmp_ge C 13 d_Wl_isAccount_6 (by decide) (fun h6 => ?_) (fun h6 => ?_)
    ·
      refine mw_iconst C (v := nI 0) d_Wl_isAccount_13 (by decide) ?_
      refine mw_zret C hR d_Wl_isAccount_14 (by decide) ?_
      exact Or.inr ⟨rfl, fun ⟨k, hk, e⟩ => by rw [e] at h6; exact nI_ge hk (by decide) h6⟩
    ·
      refine mw_iconst C (v := nI 1) d_Wl_isAccount_9 (by decide) ?_
      refine mw_goto C 14 d_Wl_isAccount_10 (by decide) ?_
      refine mw_zret C hR d_Wl_isAccount_14 (by decide) ?_
      exact Or.inl ⟨rfl, by
        rcases pk_ix x (n := 4) (by decide) with h | h | h
        · exact absurd h h1
        · exact absurd h h6
        · exact h⟩
set_option maxHeartbeats 4000000 in
set_option maxRecDepth 100000 in
theorem m_Wl_payerOf (l : Launch) (D : va_G) (cA : Nat → ClassId) (t : Nat) (ht : t < 2 ^ 31) (S : mw_S) : mw_M false l lw_tbl y_Wl_payerOf b_Wl_payerOf 1 (some .int) { frames := 0, cells := 0, slots := 0, locals := 0 } D vCl cA sh0 0 [.inl (nI t)] (S) (mw_Pi (fun r _ => r = nI (t % 1000 / 10))) := by
  refine mw_M_of (by decide) (Nat.le_of_ble_eq_true rfl) ?_
  intro p e s m args below meth c A ad C hR
  refine mw_iload_n C 0 d_Wl_payerOf_0 rfl rfl ?_
  refine mw_sipush C (v := nI 1000) d_Wl_payerOf_1 (by decide) ?_
  refine mw_iremN C d_Wl_payerOf_4 (by omega) (by decide) (by decide) ?_
  refine mw_bipush C (v := nI 10) d_Wl_payerOf_5 (by decide) ?_
  refine mw_idivN C d_Wl_payerOf_7 (by omega) (by decide) (by decide) ?_
  refine mw_iret C hR d_Wl_payerOf_8 ?_
  rfl
set_option maxHeartbeats 4000000 in
set_option maxRecDepth 100000 in
theorem m_Wl_payeeOf (l : Launch) (D : va_G) (cA : Nat → ClassId) (t : Nat) (ht : t < 2 ^ 31) (S : mw_S) : mw_M false l lw_tbl y_Wl_payeeOf b_Wl_payeeOf 1 (some .int) { frames := 0, cells := 0, slots := 0, locals := 0 } D vCl cA sh0 0 [.inl (nI t)] (S) (mw_Pi (fun r _ => r = nI (t % 10))) := by
  refine mw_M_of (by decide) (Nat.le_of_ble_eq_true rfl) ?_
  intro p e s m args below meth c A ad C hR
  refine mw_iload_n C 0 d_Wl_payeeOf_0 rfl rfl ?_
  refine mw_bipush C (v := nI 10) d_Wl_payeeOf_1 (by decide) ?_
  refine mw_iremN C d_Wl_payeeOf_3 (by omega) (by decide) (by decide) ?_
  refine mw_iret C hR d_Wl_payeeOf_4 ?_
  rfl
set_option maxHeartbeats 4000000 in
set_option maxRecDepth 100000 in
theorem m_Wl_numberOf (l : Launch) (D : va_G) (cA : Nat → ClassId) (r q : Nat) (hr : 1 ≤ r) (S : mw_S) : mw_M false l lw_tbl y_Wl_numberOf b_Wl_numberOf 2 (some .int) { frames := 0, cells := 0, slots := 0, locals := 0 } D vCl cA sh0 0 [.inl (nI r), .inl (nI q)] (S) (mw_Pi (fun z _ => z = nI (4 * (r - 1) + q))) := by
  refine mw_M_of (by decide) (Nat.le_of_ble_eq_true rfl) ?_
  intro p e s m args below meth c A ad C hR
  refine mw_iconst C (v := nI 4) d_Wl_numberOf_0 (by decide) ?_
  refine mw_iload_n C 0 d_Wl_numberOf_1 rfl rfl ?_
  refine mw_iconst C (v := nI 1) d_Wl_numberOf_2 (by decide) ?_
  refine mw_isubN C d_Wl_numberOf_3 (by omega) ?_
  refine mw_imulN C d_Wl_numberOf_4 ?_
  refine mw_iload_n C 1 d_Wl_numberOf_5 rfl rfl ?_
  refine mw_iaddN C d_Wl_numberOf_6 ?_
  refine mw_iret C hR d_Wl_numberOf_7 ?_
  rfl
set_option maxHeartbeats 4000000 in
set_option maxRecDepth 100000 in
theorem m_Wl_roundOf (l : Launch) (D : va_G) (cA : Nat → ClassId) (q : Nat) (hq : q < 2 ^ 31) (S : mw_S) : mw_M false l lw_tbl y_Wl_roundOf b_Wl_roundOf 1 (some .int) { frames := 0, cells := 0, slots := 0, locals := 0 } D vCl cA sh0 0 [.inl (nI q)] (S) (mw_Pi (fun z _ => z = nI (q / 4 + 1))) := by
  refine mw_M_of (by decide) (Nat.le_of_ble_eq_true rfl) ?_
  intro p e s m args below meth c A ad C hR
  refine mw_iload_n C 0 d_Wl_roundOf_0 rfl rfl ?_
  refine mw_iconst C (v := nI 4) d_Wl_roundOf_1 (by decide) ?_
  refine mw_idivN C d_Wl_roundOf_2 (by omega) (by decide) (by decide) ?_
  refine mw_iconst C (v := nI 1) d_Wl_roundOf_3 (by decide) ?_
  refine mw_iaddN C d_Wl_roundOf_4 ?_
  refine mw_iret C hR d_Wl_roundOf_5 ?_
  rfl
set_option maxHeartbeats 4000000 in
set_option maxRecDepth 100000 in
theorem m_Wl_bitOf (l : Launch) (D : va_G) (cA : Nat → ClassId) (q : Nat) (hq : q < 64) (S : mw_S) : mw_M false l lw_tbl y_Wl_bitOf b_Wl_bitOf 1 (some .long) { frames := 0, cells := 0, slots := 0, locals := 0 } D vCl cA sh0 0 [.inl (nI q)] (S) (mw_Pl (fun z _ => z = lN (2 ^ q))) := by
  refine mw_M_of (by decide) (Nat.le_of_ble_eq_true rfl) ?_
  intro p e s m args below meth c A ad C hR
  refine mw_lconst C (v := 1) d_Wl_bitOf_0 (by decide) ?_
  refine mw_iload_n C 0 d_Wl_bitOf_1 rfl rfl ?_
  refine mw_lshl C d_Wl_bitOf_2 ?_
  refine mw_lret C hR d_Wl_bitOf_3 ?_
  show (1 : Int64) <<< ((nI q).toInt64 &&& 63) = _
  rw [show (1 : Int64) = lN 1 from by decide, wb_shl 1 hq, Nat.one_mul]
set_option maxHeartbeats 4000000 in
set_option maxRecDepth 100000 in
theorem m_Wl_contains (l : Launch) (D : va_G) (cA : Nat → ClassId) (x : Int64) (q : Nat) (hq : q < 64) (S : mw_S) : mw_M false l lw_tbl y_Wl_contains b_Wl_contains 3 (some .boolean) { frames := 0, cells := 0, slots := 0, locals := 0 } D vCl cA sh0 0 [.inr (.inl x), .inl (nI q)] (S) (mw_Pi (fun z _ => z = nI (lb x q).toNat)) := by
  refine mw_M_of (by decide) (Nat.le_of_ble_eq_true rfl) ?_
  intro p e s m args below meth c A ad C hR
  refine mw_lload_n C 0 d_Wl_contains_0 rfl rfl ?_
  refine mw_iload_n C 2 d_Wl_contains_1 rfl rfl ?_
  refine mw_lushr C d_Wl_contains_2 ?_
  refine mw_lconst C (v := 1) d_Wl_contains_3 (by decide) ?_
  refine mw_land C d_Wl_contains_4 ?_
  refine mw_lconst C (v := 0) d_Wl_contains_5 (by decide) ?_
  refine mw_lcmp C d_Wl_contains_6 ?_
  refine mw_if_eq C 14 d_Wl_contains_7 (by decide) (fun h7 => ?_) (fun h7 => ?_)
  ·
    refine mw_iconst C (v := nI 0) d_Wl_contains_14 (by decide) ?_
    refine mw_zret C hR d_Wl_contains_15 (by decide) ?_
    have h := (lb_test x hq).mp ((lg_cmp_eq _ _).mp h7)
    show nI 0 = _
    rw [h]; rfl
  ·
    refine mw_iconst C (v := nI 1) d_Wl_contains_10 (by decide) ?_
    refine mw_goto C 15 d_Wl_contains_11 (by decide) ?_
    refine mw_zret C hR d_Wl_contains_15 (by decide) ?_
    have h : lb x q = true := by
      cases hb : lb x q with
      | true => rfl
      | false => exact absurd ((lg_cmp_eq _ _).mpr ((lb_test x hq).mpr hb)) h7
    show nI 1 = _
    rw [h]; rfl
set_option maxHeartbeats 4000000 in
set_option maxRecDepth 100000 in
theorem m_Ma_kindOf (l : Launch) (D : va_G) (cA : Nat → ClassId) (t : Nat) (ht : t < 2 ^ 31) (S : mw_S) : mw_M false l lw_tbl y_Ma_kindOf b_Ma_kindOf 1 (some .int) { frames := 0, cells := 0, slots := 0, locals := 0 } D vCl cA sh0 0 [.inl (nI t)] (S) (mw_Pi (fun z _ => z = nI (t % 4))) := by
  refine mw_M_of (by decide) (Nat.le_of_ble_eq_true rfl) ?_
  intro p e s m args below meth c A ad C hR
  refine mw_iload_n C 0 d_Ma_kindOf_0 rfl rfl ?_
  refine mw_iconst C (v := nI 3) d_Ma_kindOf_1 (by decide) ?_
  refine mw_iand C d_Ma_kindOf_2 ?_
  refine mw_iret C hR d_Ma_kindOf_3 ?_
  exact pk_andN (by omega) 2 (by decide)
set_option maxHeartbeats 4000000 in
set_option maxRecDepth 100000 in
theorem m_Ma_senderOf (l : Launch) (D : va_G) (cA : Nat → ClassId) (t : Nat) (ht : t < 2 ^ 31) (S : mw_S) : mw_M false l lw_tbl y_Ma_senderOf b_Ma_senderOf 1 (some .int) { frames := 0, cells := 0, slots := 0, locals := 0 } D vCl cA sh0 0 [.inl (nI t)] (S) (mw_Pi (fun z _ => z = nI (t / 4 % 4))) := by
  refine mw_M_of (by decide) (Nat.le_of_ble_eq_true rfl) ?_
  intro p e s m args below meth c A ad C hR
  refine mw_iload_n C 0 d_Ma_senderOf_0 rfl rfl ?_
  refine mw_iconst C (v := nI 2) d_Ma_senderOf_1 (by decide) ?_
  refine mw_iushr C d_Ma_senderOf_2 ?_
  refine mw_eqi (pk_ushrN (by omega) (nI 2) 2 (by decide)) ?_
  refine mw_iconst C (v := nI 3) d_Ma_senderOf_3 (by decide) ?_
  refine mw_iand C d_Ma_senderOf_4 ?_
  refine mw_iret C hR d_Ma_senderOf_5 ?_
  exact pk_andN (by omega) 2 (by decide)
set_option maxHeartbeats 4000000 in
set_option maxRecDepth 100000 in
theorem m_Ma_receiverOf (l : Launch) (D : va_G) (cA : Nat → ClassId) (t : Nat) (ht : t < 2 ^ 31) (S : mw_S) : mw_M false l lw_tbl y_Ma_receiverOf b_Ma_receiverOf 1 (some .int) { frames := 0, cells := 0, slots := 0, locals := 0 } D vCl cA sh0 0 [.inl (nI t)] (S) (mw_Pi (fun z _ => z = nI (t / 16 % 4))) := by
  refine mw_M_of (by decide) (Nat.le_of_ble_eq_true rfl) ?_
  intro p e s m args below meth c A ad C hR
  refine mw_iload_n C 0 d_Ma_receiverOf_0 rfl rfl ?_
  refine mw_iconst C (v := nI 4) d_Ma_receiverOf_1 (by decide) ?_
  refine mw_iushr C d_Ma_receiverOf_2 ?_
  refine mw_eqi (pk_ushrN (by omega) (nI 4) 4 (by decide)) ?_
  refine mw_iconst C (v := nI 3) d_Ma_receiverOf_3 (by decide) ?_
  refine mw_iand C d_Ma_receiverOf_4 ?_
  refine mw_iret C hR d_Ma_receiverOf_5 ?_
  exact pk_andN (by omega) 2 (by decide)
set_option maxHeartbeats 4000000 in
set_option maxRecDepth 100000 in
theorem m_Ma_subjectOf (l : Launch) (D : va_G) (cA : Nat → ClassId) (t : Nat) (ht : t < 2 ^ 31) (S : mw_S) : mw_M false l lw_tbl y_Ma_subjectOf b_Ma_subjectOf 1 (some .int) { frames := 0, cells := 0, slots := 0, locals := 0 } D vCl cA sh0 0 [.inl (nI t)] (S) (mw_Pi (fun z _ => z = nI (t / 64))) := by
  refine mw_M_of (by decide) (Nat.le_of_ble_eq_true rfl) ?_
  intro p e s m args below meth c A ad C hR
  refine mw_iload_n C 0 d_Ma_subjectOf_0 rfl rfl ?_
  refine mw_bipush C (v := nI 6) d_Ma_subjectOf_1 (by decide) ?_
  refine mw_iushr C d_Ma_subjectOf_3 ?_
  refine mw_iret C hR d_Ma_subjectOf_4 ?_
  exact pk_ushrN (by omega) (nI 6) 6 (by decide)
set_option maxHeartbeats 4000000 in
set_option maxRecDepth 100000 in
theorem m_Ma_has (l : Launch) (D : va_G) (cA : Nat → ClassId) (x : Int32) (S : mw_S) (cn : Nat) (hc : cn < 2 ^ 31) (h0 : S.1 0 2 = nI cn) : mw_M false l lw_tbl y_Ma_has b_Ma_has 2 (some .boolean) { frames := 0, cells := 0, slots := 0, locals := 0 } D vCl cA sh_Ma 2 [.inr (.inr 0), .inl x] (S) (mw_Pi (fun r _ => (r = nI 1 ∧ ∃ k, k < cn ∧ x = nI k) ∨ (r = nI 0 ∧ ¬ ∃ k, k < cn ∧ x = nI k))) := by
  refine mw_M_of (by decide) (Nat.le_of_ble_eq_true rfl) ?_
  intro p e s m args below meth c A ad C hR
  refine mw_iload_n C 1 d_Ma_has_0 rfl rfl ?_
  refine mw_if_lt C 16 d_Ma_has_1 (by decide) (fun h1 => ?_) (fun h1 => ?_)
  ·
    refine mw_iconst C (v := nI 0) d_Ma_has_16 (by decide) ?_
    refine mw_zret C hR d_Ma_has_17 (by decide) ?_
    exact Or.inr ⟨rfl, fun ⟨k, hk, e⟩ => by rw [e] at h1; exact nI_pos (by omega) h1⟩
  ·
    refine mw_iload_n C 1 d_Ma_has_4 rfl rfl ?_
    refine mw_aload_n C 0 d_Ma_has_5 rfl rfl ?_
    refine mw_geti C f_Ma_19 d_Ma_has_6 (by decide) rfl rfl ?_
    refine mw_eqi h0 ?_
    refine mw_icmp_ge C 16 d_Ma_has_9 (by decide) (fun h9 => ?_) (fun h9 => ?_)
    ·
      refine mw_iconst C (v := nI 0) d_Ma_has_16 (by decide) ?_
      refine mw_zret C hR d_Ma_has_17 (by decide) ?_
      exact Or.inr ⟨rfl, fun ⟨k, hk, e⟩ => by rw [e] at h9; exact nI_ge hk hc h9⟩
    ·
      refine mw_iconst C (v := nI 1) d_Ma_has_12 (by decide) ?_
      refine mw_goto C 17 d_Ma_has_13 (by decide) ?_
      refine mw_zret C hR d_Ma_has_17 (by decide) ?_
      exact Or.inl ⟨rfl, by
        rcases pk_ix x hc with h | h | h
        · exact absurd h h1
        · exact absurd h h9
        · exact h⟩
set_option maxHeartbeats 4000000 in
set_option maxRecDepth 100000 in
theorem m_Tq_isFull (l : Launch) (D : va_G) (cA : Nat → ClassId) (S : mw_S) (cn : Nat) (hc : cn < 2 ^ 31) (h0 : S.1 0 1 = nI cn) : mw_M false l lw_tbl y_Tq_isFull b_Tq_isFull 1 (some .boolean) { frames := 0, cells := 0, slots := 0, locals := 0 } D vCl cA sh_Tq 2 [.inr (.inr 0)] (S) (mw_Pi (fun r _ => (r = nI 1 ∧ 12 ≤ cn) ∨ (r = nI 0 ∧ cn < 12))) := by
  refine mw_M_of (by decide) (Nat.le_of_ble_eq_true rfl) ?_
  intro p e s m args below meth c A ad C hR
  refine mw_aload_n C 0 d_Tq_isFull_0 rfl rfl ?_
  refine mw_geti C f_Tq_15 d_Tq_isFull_1 (by decide) rfl rfl ?_
  refine mw_eqi h0 ?_
  refine mw_bipush C (v := nI 12) d_Tq_isFull_4 (by decide) ?_
  refine mw_icmp_ltN C 13 d_Tq_isFull_6 (by decide) (by omega) (by omega) (fun h6 => ?_) (fun h6 => ?_)
  ·
    refine mw_iconst C (v := nI 0) d_Tq_isFull_13 (by decide) ?_
    refine mw_zret C hR d_Tq_isFull_14 (by decide) ?_
    exact Or.inr ⟨rfl, h6⟩
  ·
    refine mw_iconst C (v := nI 1) d_Tq_isFull_9 (by decide) ?_
    refine mw_goto C 14 d_Tq_isFull_10 (by decide) ?_
    refine mw_zret C hR d_Tq_isFull_14 (by decide) ?_
    exact Or.inl ⟨rfl, h6⟩
set_option maxHeartbeats 4000000 in
set_option maxRecDepth 100000 in
theorem m_Ve_has (l : Launch) (D : va_G) (cA : Nat → ClassId) (x : Int32) (S : mw_S) (nv : Nat) (hc : nv < 2 ^ 30) (h0 : S.1 0 4 = nI nv) : mw_M false l lw_tbl y_Ve_has b_Ve_has 2 (some .boolean) { frames := 0, cells := 0, slots := 0, locals := 0 } D vCl cA sh_Ve 5 [.inr (.inr 0), .inl x] (S) (mw_Pi (fun r _ => (r = nI 1 ∧ ∃ k, 1 ≤ k ∧ k ≤ nv ∧ x = nI k) ∨ (r = nI 0 ∧ ¬ ∃ k, 1 ≤ k ∧ k ≤ nv ∧ x = nI k))) := by
  refine mw_M_of (by decide) (Nat.le_of_ble_eq_true rfl) ?_
  intro p e s m args below meth c A ad C hR
  refine mw_iload_n C 1 d_Ve_has_0 rfl rfl ?_
  refine mw_iconst C (v := nI 1) d_Ve_has_1 (by decide) ?_
  refine mw_icmp_lt C 17 d_Ve_has_2 (by decide) (fun h2 => ?_) (fun h2 => ?_)
  ·
    refine mw_iconst C (v := nI 0) d_Ve_has_17 (by decide) ?_
    refine mw_zret C hR d_Ve_has_18 (by decide) ?_
    exact Or.inr ⟨rfl, fun ⟨k, h1, h3, e⟩ => by rw [e] at h2; exact absurd h2 (nI_nlt h1 (by omega))⟩
  ·
    refine mw_iload_n C 1 d_Ve_has_5 rfl rfl ?_
    refine mw_aload_n C 0 d_Ve_has_6 rfl rfl ?_
    refine mw_geti C f_Ve_25 d_Ve_has_7 (by decide) rfl rfl ?_
    refine mw_eqi h0 ?_
    refine mw_icmp_gt C 17 d_Ve_has_10 (by decide) (fun h10 => ?_) (fun h10 => ?_)
    ·
      refine mw_iconst C (v := nI 0) d_Ve_has_17 (by decide) ?_
      refine mw_zret C hR d_Ve_has_18 (by decide) ?_
      exact Or.inr ⟨rfl, fun ⟨k, h1, h3, e⟩ => by rw [e] at h10; exact absurd h10 (nI_nlt h3 (by omega))⟩
    ·
      refine mw_iconst C (v := nI 1) d_Ve_has_13 (by decide) ?_
      refine mw_goto C 18 d_Ve_has_14 (by decide) ?_
      refine mw_zret C hR d_Ve_has_18 (by decide) ?_
      exact Or.inl ⟨rfl, by
        rcases pk_ix x (n := nv + 1) (by omega) with h | h | h
        · exact absurd (Int32.lt_trans h (by decide)) h2
        · exact absurd (Int32.lt_of_lt_of_le (nI_lt (Nat.lt_succ_self nv) (by omega)) h) h10
        · obtain ⟨j, hj, e⟩ := h
          refine ⟨j, ?_, by omega, e⟩
          rw [e] at h2
          exact Nat.not_lt.mp (fun h9 => h2 (nI_lt h9 (by decide)))⟩
set_option maxHeartbeats 4000000 in
set_option maxRecDepth 100000 in
theorem m_Ve_sourceOf (l : Launch) (D : va_G) (cA : Nat → ClassId) (v q : Nat) (S : mw_S) (hv : v < 73) (hq : q < 2 ^ 31) (h0 : S.1 1 v = nI q) : mw_M false l lw_tbl y_Ve_sourceOf b_Ve_sourceOf 2 (some .int) { frames := 0, cells := 0, slots := 0, locals := 0 } D vCl cA sh_Ve 5 [.inr (.inr 0), .inl (nI v)] (S) (mw_Pi (fun r _ => r = nI (q % 4))) := by
  refine mw_M_of (by decide) (Nat.le_of_ble_eq_true rfl) ?_
  intro p e s m args below meth c A ad C hR
  refine mw_aload_n C 0 d_Ve_sourceOf_0 rfl rfl ?_
  refine mw_getr C f_Ve_9 d_Ve_sourceOf_1 (by decide) rfl rfl ?_
  refine mw_iload_n C 1 d_Ve_sourceOf_4 rfl rfl ?_
  refine mw_ialdN C d_Ve_sourceOf_5 (by decide) rfl (by omega) (by decide) ?_
  refine mw_eqi h0 ?_
  refine mw_iconst C (v := nI 4) d_Ve_sourceOf_6 (by decide) ?_
  refine mw_iremN C d_Ve_sourceOf_7 (by omega) (by decide) (by decide) ?_
  refine mw_iret C hR d_Ve_sourceOf_8 ?_
  rfl
set_option maxHeartbeats 4000000 in
set_option maxRecDepth 100000 in
theorem m_Tq_append (l : Launch) (D : va_G) (cA : Nat → ClassId) (x : Int32) (S : mw_S) (cn : Nat) (hc : cn < 12) (h0 : S.1 0 1 = nI cn) : mw_M true l lw_tbl y_Tq_append b_Tq_append 2 none { frames := 0, cells := 0, slots := 0, locals := 0 } D vCl cA sh_Tq 2 [.inr (.inr 0), .inl x] (S) (mw_Pv (fun S' => S' = mw_uI (mw_uI S 1 cn x) 0 1 (nI (cn + 1)))) := by
  refine mw_M_of (by decide) (Nat.le_of_ble_eq_true rfl) ?_
  intro p e s m args below meth c A ad C hR
  refine mw_aload_n C 0 d_Tq_append_0 rfl rfl ?_
  refine mw_getr C f_Tq_9 d_Tq_append_1 (by decide) rfl rfl ?_
  refine mw_aload_n C 0 d_Tq_append_4 rfl rfl ?_
  refine mw_geti C f_Tq_15 d_Tq_append_5 (by decide) rfl rfl ?_
  refine mw_eqi h0 ?_
  refine mw_iload_n C 1 d_Tq_append_8 rfl rfl ?_
  refine mw_iastN C rfl d_Tq_append_9 (by decide) rfl (by omega) (by decide) ?_
  refine mw_aload_n C 0 d_Tq_append_10 rfl rfl ?_
  refine mw_dup C d_Tq_append_11 rfl ?_
  refine mw_geti C f_Tq_15 d_Tq_append_12 (by decide) rfl rfl ?_
  refine mw_eqi (show _ = nI cn from h0) ?_
  refine mw_iconst C (v := nI 1) d_Tq_append_15 (by decide) ?_
  refine mw_iaddN C d_Tq_append_16 ?_
  refine mw_puti C rfl f_Tq_15 p_Tq_1 d_Tq_append_17 (by decide) rfl rfl ?_
  refine mw_vret C hR d_Tq_append_20 ?_
  rfl
set_option maxHeartbeats 4000000 in
set_option maxRecDepth 100000 in
theorem m_Ve_make (l : Launch) (D : va_G) (cA : Nat → ClassId) (x y z : Int32) (w : Int64) (S : mw_S) (cn : Nat) (hc : cn < 72) (h0 : S.1 0 4 = nI cn) : mw_M true l lw_tbl y_Ve_make b_Ve_make 6 (some .int) { frames := 0, cells := 0, slots := 0, locals := 0 } D vCl cA sh_Ve 5 [.inr (.inr 0), .inl x, .inl y, .inr (.inl w), .inl z] (S) (mw_Pi (fun r S' => r = nI (cn + 1) ∧ S' = mw_uI (mw_uL (mw_uI (mw_uI (mw_uI S 0 4 (nI (cn + 1))) 1 (cn + 1) x) 2 (cn + 1) y) 3 (cn + 1) w) 4 (cn + 1) z)) := by
  refine mw_M_of (by decide) (Nat.le_of_ble_eq_true rfl) ?_
  intro p e s m args below meth c A ad C hR
  refine mw_aload_n C 0 d_Ve_make_0 rfl rfl ?_
  refine mw_dup C d_Ve_make_1 rfl ?_
  refine mw_geti C f_Ve_25 d_Ve_make_2 (by decide) rfl rfl ?_
  refine mw_eqi h0 ?_
  refine mw_iconst C (v := nI 1) d_Ve_make_5 (by decide) ?_
  refine mw_iaddN C d_Ve_make_6 ?_
  refine mw_puti C rfl f_Ve_25 p_Ve_4 d_Ve_make_7 (by decide) rfl rfl ?_
  refine mw_aload_n C 0 d_Ve_make_10 rfl rfl ?_
  refine mw_getr C f_Ve_9 d_Ve_make_11 (by decide) rfl rfl ?_
  refine mw_aload_n C 0 d_Ve_make_14 rfl rfl ?_
  refine mw_geti C f_Ve_25 d_Ve_make_15 (by decide) rfl rfl ?_
  refine mw_eqi (show _ = nI (cn + 1) from rfl) ?_
  refine mw_iload_n C 1 d_Ve_make_18 rfl rfl ?_
  refine mw_iastN C rfl d_Ve_make_19 (by decide) rfl (by omega) (by decide) ?_
  refine mw_aload_n C 0 d_Ve_make_20 rfl rfl ?_
  refine mw_getr C f_Ve_15 d_Ve_make_21 (by decide) rfl rfl ?_
  refine mw_aload_n C 0 d_Ve_make_24 rfl rfl ?_
  refine mw_geti C f_Ve_25 d_Ve_make_25 (by decide) rfl rfl ?_
  refine mw_eqi (show _ = nI (cn + 1) from rfl) ?_
  refine mw_iload_n C 2 d_Ve_make_28 rfl rfl ?_
  refine mw_iastN C rfl d_Ve_make_29 (by decide) rfl (by omega) (by decide) ?_
  refine mw_aload_n C 0 d_Ve_make_30 rfl rfl ?_
  refine mw_getr C f_Ve_18 d_Ve_make_31 (by decide) rfl rfl ?_
  refine mw_aload_n C 0 d_Ve_make_34 rfl rfl ?_
  refine mw_geti C f_Ve_25 d_Ve_make_35 (by decide) rfl rfl ?_
  refine mw_eqi (show _ = nI (cn + 1) from rfl) ?_
  refine mw_lload_n C 3 d_Ve_make_38 rfl rfl ?_
  refine mw_lastN C rfl d_Ve_make_39 (by decide) rfl (by omega) (by decide) ?_
  refine mw_aload_n C 0 d_Ve_make_40 rfl rfl ?_
  refine mw_getr C f_Ve_22 d_Ve_make_41 (by decide) rfl rfl ?_
  refine mw_aload_n C 0 d_Ve_make_44 rfl rfl ?_
  refine mw_geti C f_Ve_25 d_Ve_make_45 (by decide) rfl rfl ?_
  refine mw_eqi (show _ = nI (cn + 1) from rfl) ?_
  refine mw_iload C d_Ve_make_48 rfl ?_
  refine mw_iastN C rfl d_Ve_make_50 (by decide) rfl (by omega) (by decide) ?_
  refine mw_aload_n C 0 d_Ve_make_51 rfl rfl ?_
  refine mw_geti C f_Ve_25 d_Ve_make_52 (by decide) rfl rfl ?_
  refine mw_eqi (show _ = nI (cn + 1) from rfl) ?_
  refine mw_iret C hR d_Ve_make_55 ?_
  exact ⟨rfl, rfl⟩
