/-! the JDK's counts of bits; vertices that are right; the graph -/
def bc32 (x : Int32) : Int32 :=
  let i1 := x - ((x.toUInt32 >>> ((nI 1).toUInt32 &&& Int32.toUInt32 31)).toInt32 &&& 1431655765)
  let i2 := (i1 &&& 858993459) + ((i1.toUInt32 >>> ((nI 2).toUInt32 &&& Int32.toUInt32 31)).toInt32 &&& 858993459)
  let i3 := (i2 + (i2.toUInt32 >>> ((nI 4).toUInt32 &&& Int32.toUInt32 31)).toInt32) &&& 252645135
  let i4 := i3 + (i3.toUInt32 >>> ((nI 8).toUInt32 &&& Int32.toUInt32 31)).toInt32
  let i5 := i4 + (i4.toUInt32 >>> ((nI 16).toUInt32 &&& Int32.toUInt32 31)).toInt32
  i5 &&& nI 63
theorem bc32_16 : ∀ m, m < 16 → bc32 (nI m) = nI (pop4 m) := by decide +kernel
def bc64 (x : Int64) : Int32 :=
  let i1 := x - ((x.toUInt64 >>> ((nI 1).toInt64.toUInt64 &&& Int64.toUInt64 63)).toInt64 &&& 6148914691236517205)
  let i2 := (i1 &&& 3689348814741910323) + ((i1.toUInt64 >>> ((nI 2).toInt64.toUInt64 &&& Int64.toUInt64 63)).toInt64 &&& 3689348814741910323)
  let i3 := (i2 + (i2.toUInt64 >>> ((nI 4).toInt64.toUInt64 &&& Int64.toUInt64 63)).toInt64) &&& 1085102592571150095
  let i4 := i3 + (i3.toUInt64 >>> ((nI 8).toInt64.toUInt64 &&& Int64.toUInt64 63)).toInt64
  let i5 := i4 + (i4.toUInt64 >>> ((nI 16).toInt64.toUInt64 &&& Int64.toUInt64 63)).toInt64
  let i6 := i5 + (i5.toUInt64 >>> ((nI 32).toInt64.toUInt64 &&& Int64.toUInt64 63)).toInt64
  i6.toInt32 &&& nI 127
set_option maxHeartbeats 4000000 in
set_option maxRecDepth 100000 in
theorem m_In_bitCount (l : Launch) (D : va_G) (cA : Nat → ClassId) (x : Int32) (S : mw_S) : mw_M false l lw_tbl y_In_bitCount b_In_bitCount 1 (some .int) { frames := 0, cells := 0, slots := 0, locals := 0 } D vCl cA sh0 0 [.inl x] (S) (mw_Pi (fun r _ => r = bc32 x)) := by
  refine mw_M_of (by decide) (Nat.le_of_ble_eq_true rfl) ?_
  intro p e s m args below meth c A ad C hR
  refine mw_iload_n C 0 d_In_bitCount_0 rfl rfl ?_
  refine mw_iload_n C 0 d_In_bitCount_1 rfl rfl ?_
  refine mw_iconst C (v := nI 1) d_In_bitCount_2 (by decide) ?_
  refine mw_iushr C d_In_bitCount_3 ?_
  refine mw_ldcw C kc_In_265 d_In_bitCount_4 ?_
  refine mw_iand C d_In_bitCount_7 ?_
  refine mw_isub C d_In_bitCount_8 ?_
  refine mw_istore_n C 0 d_In_bitCount_9 rfl (by decide) ?_
  refine mw_iload_n C 0 d_In_bitCount_10 rfl rfl ?_
  refine mw_ldcw C kc_In_266 d_In_bitCount_11 ?_
  refine mw_iand C d_In_bitCount_14 ?_
  refine mw_iload_n C 0 d_In_bitCount_15 rfl rfl ?_
  refine mw_iconst C (v := nI 2) d_In_bitCount_16 (by decide) ?_
  refine mw_iushr C d_In_bitCount_17 ?_
  refine mw_ldcw C kc_In_266 d_In_bitCount_18 ?_
  refine mw_iand C d_In_bitCount_21 ?_
  refine mw_iadd C d_In_bitCount_22 ?_
  refine mw_istore_n C 0 d_In_bitCount_23 rfl (by decide) ?_
  refine mw_iload_n C 0 d_In_bitCount_24 rfl rfl ?_
  refine mw_iload_n C 0 d_In_bitCount_25 rfl rfl ?_
  refine mw_iconst C (v := nI 4) d_In_bitCount_26 (by decide) ?_
  refine mw_iushr C d_In_bitCount_27 ?_
  refine mw_iadd C d_In_bitCount_28 ?_
  refine mw_ldcw C kc_In_267 d_In_bitCount_29 ?_
  refine mw_iand C d_In_bitCount_32 ?_
  refine mw_istore_n C 0 d_In_bitCount_33 rfl (by decide) ?_
  refine mw_iload_n C 0 d_In_bitCount_34 rfl rfl ?_
  refine mw_iload_n C 0 d_In_bitCount_35 rfl rfl ?_
  refine mw_bipush C (v := nI 8) d_In_bitCount_36 (by decide) ?_
  refine mw_iushr C d_In_bitCount_38 ?_
  refine mw_iadd C d_In_bitCount_39 ?_
  refine mw_istore_n C 0 d_In_bitCount_40 rfl (by decide) ?_
  refine mw_iload_n C 0 d_In_bitCount_41 rfl rfl ?_
  refine mw_iload_n C 0 d_In_bitCount_42 rfl rfl ?_
  refine mw_bipush C (v := nI 16) d_In_bitCount_43 (by decide) ?_
  refine mw_iushr C d_In_bitCount_45 ?_
  refine mw_iadd C d_In_bitCount_46 ?_
  refine mw_istore_n C 0 d_In_bitCount_47 rfl (by decide) ?_
  refine mw_iload_n C 0 d_In_bitCount_48 rfl rfl ?_
  refine mw_bipush C (v := nI 63) d_In_bitCount_49 (by decide) ?_
  refine mw_iand C d_In_bitCount_51 ?_
  refine mw_iret C hR d_In_bitCount_52 ?_
  rfl
set_option maxHeartbeats 4000000 in
set_option maxRecDepth 100000 in
theorem m_Lo_bitCount (l : Launch) (D : va_G) (cA : Nat → ClassId) (x : Int64) (S : mw_S) : mw_M false l lw_tbl y_Lo_bitCount b_Lo_bitCount 2 (some .int) { frames := 0, cells := 0, slots := 0, locals := 0 } D vCl cA sh0 0 [.inr (.inl x)] (S) (mw_Pi (fun r _ => r = bc64 x)) := by
  refine mw_M_of (by decide) (Nat.le_of_ble_eq_true rfl) ?_
  intro p e s m args below meth c A ad C hR
  refine mw_lload_n C 0 d_Lo_bitCount_0 rfl rfl ?_
  refine mw_lload_n C 0 d_Lo_bitCount_1 rfl rfl ?_
  refine mw_iconst C (v := nI 1) d_Lo_bitCount_2 (by decide) ?_
  refine mw_lushr C d_Lo_bitCount_3 ?_
  refine mw_ldc2 C kc_Lo_314 d_Lo_bitCount_4 ?_
  refine mw_land C d_Lo_bitCount_7 ?_
  refine mw_lsub C d_Lo_bitCount_8 ?_
  refine mw_lstore_n C 0 d_Lo_bitCount_9 rfl (by decide) ?_
  refine mw_lload_n C 0 d_Lo_bitCount_10 rfl rfl ?_
  refine mw_ldc2 C kc_Lo_316 d_Lo_bitCount_11 ?_
  refine mw_land C d_Lo_bitCount_14 ?_
  refine mw_lload_n C 0 d_Lo_bitCount_15 rfl rfl ?_
  refine mw_iconst C (v := nI 2) d_Lo_bitCount_16 (by decide) ?_
  refine mw_lushr C d_Lo_bitCount_17 ?_
  refine mw_ldc2 C kc_Lo_316 d_Lo_bitCount_18 ?_
  refine mw_land C d_Lo_bitCount_21 ?_
  refine mw_ladd C d_Lo_bitCount_22 ?_
  refine mw_lstore_n C 0 d_Lo_bitCount_23 rfl (by decide) ?_
  refine mw_lload_n C 0 d_Lo_bitCount_24 rfl rfl ?_
  refine mw_lload_n C 0 d_Lo_bitCount_25 rfl rfl ?_
  refine mw_iconst C (v := nI 4) d_Lo_bitCount_26 (by decide) ?_
  refine mw_lushr C d_Lo_bitCount_27 ?_
  refine mw_ladd C d_Lo_bitCount_28 ?_
  refine mw_ldc2 C kc_Lo_318 d_Lo_bitCount_29 ?_
  refine mw_land C d_Lo_bitCount_32 ?_
  refine mw_lstore_n C 0 d_Lo_bitCount_33 rfl (by decide) ?_
  refine mw_lload_n C 0 d_Lo_bitCount_34 rfl rfl ?_
  refine mw_lload_n C 0 d_Lo_bitCount_35 rfl rfl ?_
  refine mw_bipush C (v := nI 8) d_Lo_bitCount_36 (by decide) ?_
  refine mw_lushr C d_Lo_bitCount_38 ?_
  refine mw_ladd C d_Lo_bitCount_39 ?_
  refine mw_lstore_n C 0 d_Lo_bitCount_40 rfl (by decide) ?_
  refine mw_lload_n C 0 d_Lo_bitCount_41 rfl rfl ?_
  refine mw_lload_n C 0 d_Lo_bitCount_42 rfl rfl ?_
  refine mw_bipush C (v := nI 16) d_Lo_bitCount_43 (by decide) ?_
  refine mw_lushr C d_Lo_bitCount_45 ?_
  refine mw_ladd C d_Lo_bitCount_46 ?_
  refine mw_lstore_n C 0 d_Lo_bitCount_47 rfl (by decide) ?_
  refine mw_lload_n C 0 d_Lo_bitCount_48 rfl rfl ?_
  refine mw_lload_n C 0 d_Lo_bitCount_49 rfl rfl ?_
  refine mw_bipush C (v := nI 32) d_Lo_bitCount_50 (by decide) ?_
  refine mw_lushr C d_Lo_bitCount_52 ?_
  refine mw_ladd C d_Lo_bitCount_53 ?_
  refine mw_lstore_n C 0 d_Lo_bitCount_54 rfl (by decide) ?_
  refine mw_lload_n C 0 d_Lo_bitCount_55 rfl rfl ?_
  refine mw_l2i C d_Lo_bitCount_56 ?_
  refine mw_bipush C (v := nI 127) d_Lo_bitCount_57 (by decide) ?_
  refine mw_iand C d_Lo_bitCount_59 ?_
  refine mw_iret C hR d_Lo_bitCount_60 ?_
  rfl
def ve_right (q m : Nat) (x : Int64) : Bool := if q / 4 = 0 then decide (m = 0) && decide (x = 0) else decide (3 ≤ pop4 m) && decide (x &&& ((lN (2 ^ (4 * (q / 4 - 1))) - 1) ^^^ (-1)) = 0)
def ve_down (q m : Nat) : Int64 := if q / 4 = 0 then 0 else lN (m * 2 ^ (4 * (q / 4 - 1)))
theorem ix0 (sh : Nat → mw_H) (n : Nat) : mw_ix sh0 0 sh n [] := ⟨rfl, fun k hk => absurd hk (Nat.not_lt_zero k)⟩
theorem pop4_lt (m : Nat) : pop4 m ≤ 4 := by unfold pop4; omega
set_option maxHeartbeats 4000000 in
set_option maxRecDepth 100000 in
theorem m_Ve_isRight (l : Launch) (D : va_G) (cA : Nat → ClassId) (v q k : Nat) (S : mw_S) (hv : v < 73) (hq : q < 48) (hk : k < 16) (h1 : S.1 1 v = nI q) (h2 : S.1 2 v = nI k) : mw_M false l lw_tbl y_Ve_isRight b_Ve_isRight 5 (some .boolean) { frames := 1, cells := 0, slots := 0, locals := 21 } D vCl cA sh_Ve 5 [.inr (.inr 0), .inl (nI v)] (S) (mw_Pi (fun r _ => r = nI (ve_right q k (S.2 3 v)).toNat)) := by
  refine mw_M_of (by decide) (Nat.le_of_ble_eq_true rfl) ?_
  intro p e s m args below meth c A ad C hR
  refine mw_aload_n C 0 d_Ve_isRight_0 rfl rfl ?_
  refine mw_getr C f_Ve_9 d_Ve_isRight_1 (by decide) rfl rfl ?_
  refine mw_iload_n C 1 d_Ve_isRight_4 rfl rfl ?_
  refine mw_ialdN C d_Ve_isRight_5 (by decide) rfl (by omega) (by decide) ?_
  refine mw_eqi h1 ?_
  refine mw_run0i C (ix0 _ _) (mw_invS C (m_Wl_roundOf l D cA q (by omega) _) (ix0 _ _) kb_Ve_29 ws_Wl_roundOf d_Ve_isRight_6 rfl rfl (Nat.le_of_ble_eq_true rfl) rfl rfl ⟨by decide, by decide⟩ ⟨Nat.zero_le _, Nat.zero_le _⟩) (fun x6 e6 => ?_)
  subst e6
  refine mw_istore_n C 2 d_Ve_isRight_9 rfl (by decide) ?_
  refine mw_iload_n C 2 d_Ve_isRight_10 rfl rfl ?_
  refine mw_iconst C (v := nI 1) d_Ve_isRight_11 (by decide) ?_
  refine mw_icmp_neN C 41 d_Ve_isRight_12 (by decide) (by omega) (by omega) (fun h12 => ?_) (fun h12 => ?_)
  ·
    have hq0 : ¬ q / 4 = 0 := by omega
    refine mw_iload_n C 2 d_Ve_isRight_41 rfl rfl ?_
    refine mw_iconst C (v := nI 1) d_Ve_isRight_42 (by decide) ?_
    refine mw_isubN C d_Ve_isRight_43 (by omega) ?_
    refine mw_iconst C (v := nI 0) d_Ve_isRight_44 (by decide) ?_
    refine mw_run0i C (ix0 _ _) (mw_invS C (m_Wl_numberOf l D cA (q / 4 + 1 - 1) 0 (by omega) _) (ix0 _ _) kb_Ve_33 ws_Wl_numberOf d_Ve_isRight_45 rfl rfl (Nat.le_of_ble_eq_true rfl) rfl rfl ⟨by decide, by decide⟩ ⟨Nat.zero_le _, Nat.zero_le _⟩) (fun x45 e45 => ?_)
    subst e45
    refine mw_run0l C (ix0 _ _) (mw_invS C (m_Wl_bitOf l D cA (4 * (q / 4 + 1 - 1 - 1) + 0) (by omega) _) (ix0 _ _) kb_Ve_37 ws_Wl_bitOf d_Ve_isRight_48 rfl rfl (Nat.le_of_ble_eq_true rfl) rfl rfl ⟨by decide, by decide⟩ ⟨Nat.zero_le _, Nat.zero_le _⟩) (fun x48 e48 => ?_)
    subst e48
    refine mw_lconst C (v := 1) d_Ve_isRight_51 (by decide) ?_
    refine mw_lsub C d_Ve_isRight_52 ?_
    refine mw_lstore_n C 3 d_Ve_isRight_53 rfl (by decide) ?_
    refine mw_aload_n C 0 d_Ve_isRight_54 rfl rfl ?_
    refine mw_getr C f_Ve_15 d_Ve_isRight_55 (by decide) rfl rfl ?_
    refine mw_iload_n C 1 d_Ve_isRight_58 rfl rfl ?_
    refine mw_ialdN C d_Ve_isRight_59 (by decide) rfl (by omega) (by decide) ?_
    refine mw_eqi h2 ?_
    refine mw_run0i C (ix0 _ _) (mw_invS C (m_In_bitCount l D cA (nI k) _) (ix0 _ _) kb_Ve_41 ws_In_bitCount d_Ve_isRight_60 rfl rfl (Nat.le_of_ble_eq_true rfl) rfl rfl ⟨by decide, by decide⟩ ⟨Nat.zero_le _, Nat.zero_le _⟩) (fun x60 e60 => ?_)
    subst e60
    refine mw_eqi (bc32_16 k hk) ?_
    have hp := pop4_lt k
    refine mw_iconst C (v := nI 3) d_Ve_isRight_63 (by decide) ?_
    refine mw_icmp_ltN C 88 d_Ve_isRight_64 (by decide) (by omega) (by omega) (fun h64 => ?_) (fun h64 => ?_)
    ·
      refine mw_iconst C (v := nI 0) d_Ve_isRight_88 (by decide) ?_
      refine mw_zret C hR d_Ve_isRight_89 (by decide) ?_
      unfold ve_right
      rw [if_neg hq0, decide_eq_false (by omega)]
      rfl
    ·
      refine mw_aload_n C 0 d_Ve_isRight_67 rfl rfl ?_
      refine mw_getr C f_Ve_18 d_Ve_isRight_68 (by decide) rfl rfl ?_
      refine mw_iload_n C 1 d_Ve_isRight_71 rfl rfl ?_
      refine mw_laldN C d_Ve_isRight_72 (by decide) rfl (by omega) (by decide) ?_
      refine mw_lload_n C 3 d_Ve_isRight_73 rfl rfl ?_
      refine mw_ldc2 C kc_Ve_46 d_Ve_isRight_74 ?_
      refine mw_lxor C d_Ve_isRight_77 ?_
      refine mw_land C d_Ve_isRight_78 ?_
      refine mw_lconst C (v := 0) d_Ve_isRight_79 (by decide) ?_
      refine mw_lcmp C d_Ve_isRight_80 ?_
      refine mw_if_ne C 88 d_Ve_isRight_81 (by decide) (fun h81 => ?_) (fun h81 => ?_)
      ·
        refine mw_iconst C (v := nI 0) d_Ve_isRight_88 (by decide) ?_
        refine mw_zret C hR d_Ve_isRight_89 (by decide) ?_
        unfold ve_right
        rw [if_neg hq0, decide_eq_false (p := _ = _) (fun h => h81 ((lg_cmp_eq _ _).mpr (by rw [show 4 * (q / 4 + 1 - 1 - 1) + 0 = 4 * (q / 4 - 1) from by omega]; exact h))), Bool.and_false]
        rfl
      ·
        refine mw_iconst C (v := nI 1) d_Ve_isRight_84 (by decide) ?_
        refine mw_goto C 89 d_Ve_isRight_85 (by decide) ?_
        refine mw_zret C hR d_Ve_isRight_89 (by decide) ?_
        unfold ve_right
        rw [if_neg hq0, decide_eq_true (by omega), decide_eq_true (p := _ = _) (by
          have h := (lg_cmp_eq _ _).mp h81
          rw [show 4 * (q / 4 + 1 - 1 - 1) + 0 = 4 * (q / 4 - 1) from by omega] at h
          exact h)]
        rfl
  ·
    have hq0 : q / 4 = 0 := by omega
    refine mw_aload_n C 0 d_Ve_isRight_15 rfl rfl ?_
    refine mw_getr C f_Ve_15 d_Ve_isRight_16 (by decide) rfl rfl ?_
    refine mw_iload_n C 1 d_Ve_isRight_19 rfl rfl ?_
    refine mw_ialdN C d_Ve_isRight_20 (by decide) rfl (by omega) (by decide) ?_
    refine mw_eqi h2 ?_
    refine mw_if_neN C 39 d_Ve_isRight_21 (by decide) (by omega) (fun h21 => ?_) (fun h21 => ?_)
    ·
      refine mw_iconst C (v := nI 0) d_Ve_isRight_39 (by decide) ?_
      refine mw_zret C hR d_Ve_isRight_40 (by decide) ?_
      unfold ve_right
      rw [if_pos hq0, decide_eq_false (by omega)]
      rfl
    ·
      refine mw_aload_n C 0 d_Ve_isRight_24 rfl rfl ?_
      refine mw_getr C f_Ve_18 d_Ve_isRight_25 (by decide) rfl rfl ?_
      refine mw_iload_n C 1 d_Ve_isRight_28 rfl rfl ?_
      refine mw_laldN C d_Ve_isRight_29 (by decide) rfl (by omega) (by decide) ?_
      refine mw_lconst C (v := 0) d_Ve_isRight_30 (by decide) ?_
      refine mw_lcmp C d_Ve_isRight_31 ?_
      refine mw_if_ne C 39 d_Ve_isRight_32 (by decide) (fun h32 => ?_) (fun h32 => ?_)
      ·
        refine mw_iconst C (v := nI 0) d_Ve_isRight_39 (by decide) ?_
        refine mw_zret C hR d_Ve_isRight_40 (by decide) ?_
        unfold ve_right
        rw [if_pos hq0, decide_eq_false (p := _ = _) (fun h => h32 ((lg_cmp_eq _ _).mpr h)), Bool.and_false]
        rfl
      ·
        refine mw_iconst C (v := nI 1) d_Ve_isRight_35 (by decide) ?_
        refine mw_goto C 40 d_Ve_isRight_36 (by decide) ?_
        refine mw_zret C hR d_Ve_isRight_40 (by decide) ?_
        unfold ve_right
        rw [if_pos hq0, decide_eq_true h21, decide_eq_true (p := _ = _) ((lg_cmp_eq _ _).mp h32)]
        rfl
set_option maxHeartbeats 4000000 in
set_option maxRecDepth 100000 in
theorem m_Ve_strongPlacesOf (l : Launch) (D : va_G) (cA : Nat → ClassId) (v q k : Nat) (S : mw_S) (hv : v < 73) (hq : q < 48) (hk : k < 16) (h1 : S.1 1 v = nI q) (h2 : S.1 2 v = nI k) : mw_M false l lw_tbl y_Ve_strongPlacesOf b_Ve_strongPlacesOf 3 (some .long) { frames := 1, cells := 0, slots := 0, locals := 21 } D vCl cA sh_Ve 5 [.inr (.inr 0), .inl (nI v)] (S) (mw_Pl (fun r _ => r = ve_down q k)) := by
  refine mw_M_of (by decide) (Nat.le_of_ble_eq_true rfl) ?_
  intro p e s m args below meth c A ad C hR
  refine mw_aload_n C 0 d_Ve_strongPlacesOf_0 rfl rfl ?_
  refine mw_getr C f_Ve_9 d_Ve_strongPlacesOf_1 (by decide) rfl rfl ?_
  refine mw_iload_n C 1 d_Ve_strongPlacesOf_4 rfl rfl ?_
  refine mw_ialdN C d_Ve_strongPlacesOf_5 (by decide) rfl (by omega) (by decide) ?_
  refine mw_eqi h1 ?_
  refine mw_run0i C (ix0 _ _) (mw_invS C (m_Wl_roundOf l D cA q (by omega) _) (ix0 _ _) kb_Ve_29 ws_Wl_roundOf d_Ve_strongPlacesOf_6 rfl rfl (Nat.le_of_ble_eq_true rfl) rfl rfl ⟨by decide, by decide⟩ ⟨Nat.zero_le _, Nat.zero_le _⟩) (fun x6 e6 => ?_)
  subst e6
  refine mw_istore_n C 2 d_Ve_strongPlacesOf_9 rfl (by decide) ?_
  refine mw_iload_n C 2 d_Ve_strongPlacesOf_10 rfl rfl ?_
  refine mw_iconst C (v := nI 1) d_Ve_strongPlacesOf_11 (by decide) ?_
  refine mw_icmp_neN C 19 d_Ve_strongPlacesOf_12 (by decide) (by omega) (by omega) (fun h12 => ?_) (fun h12 => ?_)
  ·
    have hq0 : ¬ q / 4 = 0 := by omega
    refine mw_aload_n C 0 d_Ve_strongPlacesOf_19 rfl rfl ?_
    refine mw_getr C f_Ve_15 d_Ve_strongPlacesOf_20 (by decide) rfl rfl ?_
    refine mw_iload_n C 1 d_Ve_strongPlacesOf_23 rfl rfl ?_
    refine mw_ialdN C d_Ve_strongPlacesOf_24 (by decide) rfl (by omega) (by decide) ?_
    refine mw_eqi h2 ?_
    refine mw_i2l C d_Ve_strongPlacesOf_25 ?_
    refine mw_iload_n C 2 d_Ve_strongPlacesOf_26 rfl rfl ?_
    refine mw_iconst C (v := nI 1) d_Ve_strongPlacesOf_27 (by decide) ?_
    refine mw_isubN C d_Ve_strongPlacesOf_28 (by omega) ?_
    refine mw_iconst C (v := nI 0) d_Ve_strongPlacesOf_29 (by decide) ?_
    refine mw_run0i C (ix0 _ _) (mw_invS C (m_Wl_numberOf l D cA (q / 4 + 1 - 1) 0 (by omega) _) (ix0 _ _) kb_Ve_33 ws_Wl_numberOf d_Ve_strongPlacesOf_30 rfl rfl (Nat.le_of_ble_eq_true rfl) rfl rfl ⟨by decide, by decide⟩ ⟨Nat.zero_le _, Nat.zero_le _⟩) (fun x30 e30 => ?_)
    subst e30
    refine mw_lshl C d_Ve_strongPlacesOf_33 ?_
    refine mw_lret C hR d_Ve_strongPlacesOf_34 ?_
    unfold ve_down
    rw [if_neg hq0, nI_l (by omega), wb_shl k (by omega), show 4 * (q / 4 + 1 - 1 - 1) + 0 = 4 * (q / 4 - 1) from by omega]
  ·
    refine mw_lconst C (v := 0) d_Ve_strongPlacesOf_15 (by decide) ?_
    refine mw_goto C 34 d_Ve_strongPlacesOf_16 (by decide) ?_
    refine mw_lret C hR d_Ve_strongPlacesOf_34 ?_
    unfold ve_down
    rw [if_pos (by omega)]
def sh_Gr : Nat → mw_H := fun k => [.inr (1, [.inr 4, .inr 1, .inr 2, .inr 3, .inl 1]), .inl (0, 48, .inl 0), .inl (1, 48, .inl 1), .inl (1, 48, .inl 1), .inr (5, [.inr 5, .inr 6, .inr 7, .inr 8, .inl 0]), .inl (0, 73, .inl 0), .inl (0, 73, .inl 0), .inl (1, 73, .inl 1), .inl (0, 73, .inl 0)].getD k (.inr (0, []))
def sh_L1 : Nat → mw_H := fun k => [.inl (1, 48, .inl 1)].getD k (.inr (0, []))
theorem ix_Ve_Gr : mw_ix sh_Ve 5 sh_Gr 9 [4, 5, 6, 7, 8] := mw_ix_of (by decide +kernel)
theorem ix_L1_Gr2 : mw_ix sh_L1 1 sh_Gr 9 [2] := mw_ix_of (by decide +kernel)
theorem ix_L1_Gr3 : mw_ix sh_L1 1 sh_Gr 9 [3] := mw_ix_of (by decide +kernel)
theorem ix_Gr_Gr : mw_ix sh_Gr 9 sh_Gr 9 [0, 1, 2, 3, 4, 5, 6, 7, 8] := mw_ix_of (by decide +kernel)
set_option maxHeartbeats 4000000 in
set_option maxRecDepth 100000 in
theorem m_Gr_has (l : Launch) (D : va_G) (cA : Nat → ClassId) (q : Nat) (hq : q < 64) (S : mw_S) : mw_M false l lw_tbl y_Gr_has b_Gr_has 2 (some .boolean) { frames := 1, cells := 0, slots := 0, locals := 22 } D vCl cA sh_Gr 9 [.inr (.inr 0), .inl (nI q)] (S) (mw_Pi (fun r _ => r = nI (lb (S.2 0 4) q).toNat)) := by
  refine mw_M_of (by decide) (Nat.le_of_ble_eq_true rfl) ?_
  intro p e s m args below meth c A ad C hR
  refine mw_aload_n C 0 d_Gr_has_0 rfl rfl ?_
  refine mw_getl C f_Gr_26 d_Gr_has_1 (by decide) rfl rfl ?_
  refine mw_iload_n C 1 d_Gr_has_4 rfl rfl ?_
  refine mw_run0i C (ix0 _ _) (mw_invS C (m_Wl_contains l D cA _ q hq _) (ix0 _ _) kb_Gr_30 ws_Wl_contains d_Gr_has_5 rfl rfl (Nat.le_of_ble_eq_true rfl) rfl rfl ⟨by decide, by decide⟩ ⟨Nat.zero_le _, Nat.zero_le _⟩) (fun x5 e5 => ?_)
  subst e5
  refine mw_zret C hR d_Gr_has_8 (by cases lb (S.2 0 4) q <;> decide) ?_
  rfl
def gr_follow (rows : Nat → Int64) (d : Int64) : Nat → Int64
  | 0 => d
  | k + 1 => if lb d k = true then gr_follow rows d k ||| rows k else gr_follow rows d k
theorem lb_nat0 {b : Bool} (h : b.toNat = 0) : b = false := by cases b; rfl; cases h
theorem lb_nat1 {b : Bool} (h : 0 < b.toNat) : b = true := by cases b; cases h; rfl
theorem lb_nat_lt (b : Bool) : b.toNat < 2 ^ 31 := by cases b <;> decide
set_option maxHeartbeats 4000000 in
set_option maxRecDepth 100000 in
theorem m_Gr_follow (l : Launch) (D : va_G) (cA : Nat → ClassId) (dr : Int64) (S : mw_S) : mw_M false l lw_tbl y_Gr_follow b_Gr_follow 6 (some .long) { frames := 1, cells := 0, slots := 0, locals := 22 } D vCl cA sh_L1 1 [.inr (.inr 0), .inr (.inl dr)] (S) (mw_Pl (fun r _ => r = gr_follow (S.2 0) dr 48)) := by
  refine mw_M_of (by decide) (Nat.le_of_ble_eq_true rfl) ?_
  intro p e s m args below meth c A ad C hR
  have L : ∀ (dd i : Nat), i + dd = 48 → mw p l e { frames := 1, cells := 0, slots := 0, locals := 22 } s m args below meth c (MQ below (mw_Qc false D vCl cA ad sh_L1 1 s.heap.size (S) (mw_Pl (fun r _ => r = gr_follow (S.2 0) dr 48))) args s 0 0 A) 0 0 D vCl cA A ad sh_L1 1 6 (5) ([(5, .inl (nI i)), (3, .inr (.inl (gr_follow (S.2 0) dr i))), (0, .inr (.inr 0)), (1, .inr (.inl dr))]) ([]) (S) := by
    intro dd
    induction dd with
    | zero =>
      intro i hi
      refine mw_iload C d_Gr_follow_5 rfl ?_
      refine mw_bipush C (v := nI 48) d_Gr_follow_7 (by decide) ?_
      refine mw_icmp_geN C 34 d_Gr_follow_9 (by decide) (by omega) (by omega) (fun h9 => ?_) (fun h9 => ?_)
      ·
        refine mw_lload_n C 3 d_Gr_follow_34 rfl rfl ?_
        refine mw_lret C hR d_Gr_follow_35 ?_
        rw [show i = 48 from by omega]
      · exfalso; omega
    | succ dd ih =>
      intro i hi
      refine mw_iload C d_Gr_follow_5 rfl ?_
      refine mw_bipush C (v := nI 48) d_Gr_follow_7 (by decide) ?_
      refine mw_icmp_geN C 34 d_Gr_follow_9 (by decide) (by omega) (by omega) (fun h9 => ?_) (fun h9 => ?_)
      · exfalso; omega
      ·
        refine mw_lload_n C 1 d_Gr_follow_12 rfl rfl ?_
        refine mw_iload C d_Gr_follow_13 rfl ?_
        refine mw_run0i C (ix0 _ _) (mw_invS C (m_Wl_contains l D cA dr i (by omega) _) (ix0 _ _) kb_Gr_30 ws_Wl_contains d_Gr_follow_15 rfl rfl (Nat.le_of_ble_eq_true rfl) rfl rfl ⟨by decide, by decide⟩ ⟨Nat.zero_le _, Nat.zero_le _⟩) (fun x15 e15 => ?_)
        subst e15
        have hlt := lb_nat_lt (lb dr i)
        refine mw_if_eqN C 28 d_Gr_follow_18 (by decide) (by omega) (fun h18 => ?_) (fun h18 => ?_)
        ·
          refine mw_iincN C d_Gr_follow_28 rfl (by decide) ?_
          refine mw_goto C 5 d_Gr_follow_31 (by decide) ?_
          refine mw_eq _ _ _ (by exact And.intro rfl (And.intro (by show some (Sum.inr (Sum.inl _)) = _; rw [gr_follow, if_neg (by rw [lb_nat0 h18]; decide)]) (And.intro rfl (And.intro rfl trivial)))) rfl rfl (ih (i + 1) (by omega))
        ·
          refine mw_lload_n C 3 d_Gr_follow_21 rfl rfl ?_
          refine mw_aload_n C 0 d_Gr_follow_22 rfl rfl ?_
          refine mw_iload C d_Gr_follow_23 rfl ?_
          refine mw_laldN C d_Gr_follow_25 (by decide) rfl (by omega) (by decide) ?_
          refine mw_lor C d_Gr_follow_26 ?_
          refine mw_lstore_n C 3 d_Gr_follow_27 rfl (by decide) ?_
          refine mw_iincN C d_Gr_follow_28 rfl (by decide) ?_
          refine mw_goto C 5 d_Gr_follow_31 (by decide) ?_
          refine mw_eq _ _ _ (by exact And.intro rfl (And.intro (by show some (Sum.inr (Sum.inl _)) = _; rw [gr_follow, if_pos (lb_nat1 h18)]) (And.intro rfl (And.intro rfl trivial)))) rfl rfl (ih (i + 1) (by omega))
  refine mw_lload_n C 1 d_Gr_follow_0 rfl rfl ?_
  refine mw_lstore_n C 3 d_Gr_follow_1 rfl (by decide) ?_
  refine mw_iconst C (v := nI 0) d_Gr_follow_2 (by decide) ?_
  refine mw_istore C d_Gr_follow_3 (by decide) ?_
  exact mw_to _ (by exact And.intro rfl (And.intro rfl (And.intro rfl (And.intro rfl (trivial))))) (L 48 0 rfl)
set_option maxHeartbeats 4000000 in
set_option maxRecDepth 100000 in
theorem m_Gr_nodesIn (l : Launch) (D : va_G) (cA : Nat → ClassId) (r : Nat) (hr : 1 ≤ r) (hr2 : r ≤ 12) (S : mw_S) : mw_M false l lw_tbl y_Gr_nodesIn b_Gr_nodesIn 2 (some .int) { frames := 1, cells := 0, slots := 0, locals := 21 } D vCl cA sh_Gr 9 [.inr (.inr 0), .inl (nI r)] (S) (mw_Pi (fun z _ => z = nI (four (S.2 0 4) (4 * (r - 1))))) := by
  refine mw_M_of (by decide) (Nat.le_of_ble_eq_true rfl) ?_
  intro p e s m args below meth c A ad C hR
  refine mw_aload_n C 0 d_Gr_nodesIn_0 rfl rfl ?_
  refine mw_getl C f_Gr_26 d_Gr_nodesIn_1 (by decide) rfl rfl ?_
  refine mw_iload_n C 1 d_Gr_nodesIn_4 rfl rfl ?_
  refine mw_iconst C (v := nI 0) d_Gr_nodesIn_5 (by decide) ?_
  refine mw_run0i C (ix0 _ _) (mw_invS C (m_Wl_numberOf l D cA r 0 hr _) (ix0 _ _) kb_Gr_66 ws_Wl_numberOf d_Gr_nodesIn_6 rfl rfl (Nat.le_of_ble_eq_true rfl) rfl rfl ⟨by decide, by decide⟩ ⟨Nat.zero_le _, Nat.zero_le _⟩) (fun x6 e6 => ?_)
  subst e6
  refine mw_lushr C d_Gr_nodesIn_9 ?_
  refine mw_l2i C d_Gr_nodesIn_10 ?_
  refine mw_bipush C (v := nI 15) d_Gr_nodesIn_11 (by decide) ?_
  refine mw_iand C d_Gr_nodesIn_13 ?_
  refine mw_iret C hR d_Gr_nodesIn_14 ?_
  exact four_raw (S.2 0 4) (k := 4 * (r - 1)) (by omega)
set_option maxHeartbeats 4000000 in
set_option maxRecDepth 100000 in
theorem m_Gr_hasQuorumIn (l : Launch) (D : va_G) (cA : Nat → ClassId) (r : Nat) (hr : 1 ≤ r) (hr2 : r ≤ 12) (S : mw_S) : mw_M false l lw_tbl y_Gr_hasQuorumIn b_Gr_hasQuorumIn 2 (some .boolean) { frames := 2, cells := 0, slots := 0, locals := 42 } D vCl cA sh_Gr 9 [.inr (.inr 0), .inl (nI r)] (S) (mw_Pi (fun z _ => z = nI (decide (3 ≤ pop4 (four (S.2 0 4) (4 * (r - 1))))).toNat)) := by
  refine mw_M_of (by decide) (Nat.le_of_ble_eq_true rfl) ?_
  intro p e s m args below meth c A ad C hR
  refine mw_aload_n C 0 d_Gr_hasQuorumIn_0 rfl rfl ?_
  refine mw_iload_n C 1 d_Gr_hasQuorumIn_1 rfl rfl ?_
  refine mw_run0i C ix_Gr_Gr (mw_invV C (kk := 0) (m_Gr_nodesIn l D cA r hr hr2 _) ix_Gr_Gr kb_Gr_70 wm_Gr_nodesIn wv_Gr_nodesIn (by decide) rfl rfl d_Gr_hasQuorumIn_2 rfl rfl (Nat.le_of_ble_eq_true rfl) rfl rfl ⟨by decide, by decide⟩ ⟨Nat.zero_le _, Nat.zero_le _⟩) (fun x2 e2 => ?_)
  subst e2
  refine mw_run0i C (ix0 _ _) (mw_invS C (m_In_bitCount l D cA _ _) (ix0 _ _) kb_Gr_74 ws_In_bitCount d_Gr_hasQuorumIn_5 rfl rfl (Nat.le_of_ble_eq_true rfl) rfl rfl ⟨by decide, by decide⟩ ⟨Nat.zero_le _, Nat.zero_le _⟩) (fun x5 e5 => ?_)
  subst e5
  refine mw_eqi (bc32_16 _ (four_lt _ _)) ?_
  have hp := pop4_lt (four (S.2 0 4) (4 * (r - 1)))
  refine mw_eqi (show _ = nI (pop4 (four (S.2 0 4) (4 * (r - 1)))) from rfl) ?_
  refine mw_iconst C (v := nI 3) d_Gr_hasQuorumIn_8 (by decide) ?_
  refine mw_icmp_ltN C 16 d_Gr_hasQuorumIn_9 (by decide) (by omega) (by omega) (fun h9 => ?_) (fun h9 => ?_)
  ·
    refine mw_iconst C (v := nI 0) d_Gr_hasQuorumIn_16 (by decide) ?_
    refine mw_zret C hR d_Gr_hasQuorumIn_17 (by decide) ?_
    rw [decide_eq_false (by omega)]
    rfl
  ·
    refine mw_iconst C (v := nI 1) d_Gr_hasQuorumIn_12 (by decide) ?_
    refine mw_goto C 17 d_Gr_hasQuorumIn_13 (by decide) ?_
    refine mw_zret C hR d_Gr_hasQuorumIn_17 (by decide) ?_
    rw [decide_eq_true (by omega)]
    rfl
set_option maxHeartbeats 4000000 in
set_option maxRecDepth 100000 in
theorem m_Gr_leadsStrongly (l : Launch) (D : va_G) (cA : Nat → ClassId) (a b : Nat) (ha : a < 48) (hb : b < 64) (S : mw_S) : mw_M false l lw_tbl y_Gr_leadsStrongly b_Gr_leadsStrongly 3 (some .boolean) { frames := 1, cells := 0, slots := 0, locals := 22 } D vCl cA sh_Gr 9 [.inr (.inr 0), .inl (nI a), .inl (nI b)] (S) (mw_Pi (fun z _ => z = nI (lb (S.2 3 a) b).toNat)) := by
  refine mw_M_of (by decide) (Nat.le_of_ble_eq_true rfl) ?_
  intro p e s m args below meth c A ad C hR
  refine mw_aload_n C 0 d_Gr_leadsStrongly_0 rfl rfl ?_
  refine mw_getr C f_Gr_19 d_Gr_leadsStrongly_1 (by decide) rfl rfl ?_
  refine mw_iload_n C 1 d_Gr_leadsStrongly_4 rfl rfl ?_
  refine mw_laldN C d_Gr_leadsStrongly_5 (by decide) rfl (by omega) (by decide) ?_
  refine mw_iload_n C 2 d_Gr_leadsStrongly_6 rfl rfl ?_
  refine mw_run0i C (ix0 _ _) (mw_invS C (m_Wl_contains l D cA _ b hb _) (ix0 _ _) kb_Gr_30 ws_Wl_contains d_Gr_leadsStrongly_7 rfl rfl (Nat.le_of_ble_eq_true rfl) rfl rfl ⟨by decide, by decide⟩ ⟨Nat.zero_le _, Nat.zero_le _⟩) (fun x7 e7 => ?_)
  subst e7
  refine mw_zret C hR d_Gr_leadsStrongly_10 (by cases lb (S.2 3 a) b <;> decide) ?_
  rfl
def gr_sup (rows : Nat → Int64) (r b : Nat) : Nat → Nat
  | 0 => 0
  | k + 1 => gr_sup rows r b k + (lb (rows (4 * (r - 1) + k)) b).toNat
theorem gr_sup_le (rows : Nat → Int64) (r b : Nat) : ∀ k, gr_sup rows r b k ≤ k
  | 0 => Nat.le_refl 0
  | k + 1 => by
    have h := gr_sup_le rows r b k
    have h2 := Bool.toNat_le (lb (rows (4 * (r - 1) + k)) b)
    unfold gr_sup
    omega
set_option maxHeartbeats 4000000 in
set_option maxRecDepth 100000 in
theorem m_Gr_supportFrom (l : Launch) (D : va_G) (cA : Nat → ClassId) (r b : Nat) (hr : 1 ≤ r) (hr2 : r ≤ 12) (hb : b < 64) (S : mw_S) : mw_M false l lw_tbl y_Gr_supportFrom b_Gr_supportFrom 5 (some .int) { frames := 2, cells := 0, slots := 0, locals := 44 } D vCl cA sh_Gr 9 [.inr (.inr 0), .inl (nI r), .inl (nI b)] (S) (mw_Pi (fun z _ => z = nI (gr_sup (S.2 3) r b 4))) := by
  refine mw_M_of (by decide) (Nat.le_of_ble_eq_true rfl) ?_
  intro p e s m args below meth c A ad C hR
  have L : ∀ (dd i : Nat), i + dd = 4 → mw p l e { frames := 2, cells := 0, slots := 0, locals := 44 } s m args below meth c (MQ below (mw_Qc false D vCl cA ad sh_Gr 9 s.heap.size (S) (mw_Pi (fun z _ => z = nI (gr_sup (S.2 3) r b 4)))) args s 0 0 A) 0 0 D vCl cA A ad sh_Gr 9 5 (5) ([(4, .inl (nI i)), (3, .inl (nI (gr_sup (S.2 3) r b i))), (0, .inr (.inr 0)), (1, .inl (nI r)), (2, .inl (nI b))]) ([]) (S) := by
    intro dd
    induction dd with
    | zero =>
      intro i hi
      refine mw_iload C d_Gr_supportFrom_5 rfl ?_
      refine mw_iconst C (v := nI 4) d_Gr_supportFrom_7 (by decide) ?_
      refine mw_icmp_geN C 34 d_Gr_supportFrom_8 (by decide) (by omega) (by omega) (fun h8 => ?_) (fun h8 => ?_)
      ·
        refine mw_iload_n C 3 d_Gr_supportFrom_34 rfl rfl ?_
        refine mw_iret C hR d_Gr_supportFrom_35 ?_
        rw [show i = 4 from by omega]
      · exfalso; omega
    | succ dd ih =>
      intro i hi
      refine mw_iload C d_Gr_supportFrom_5 rfl ?_
      refine mw_iconst C (v := nI 4) d_Gr_supportFrom_7 (by decide) ?_
      refine mw_icmp_geN C 34 d_Gr_supportFrom_8 (by decide) (by omega) (by omega) (fun h8 => ?_) (fun h8 => ?_)
      · exfalso; omega
      ·
        refine mw_aload_n C 0 d_Gr_supportFrom_11 rfl rfl ?_
        refine mw_iload_n C 1 d_Gr_supportFrom_12 rfl rfl ?_
        refine mw_iload C d_Gr_supportFrom_13 rfl ?_
        refine mw_run0i C (ix0 _ _) (mw_invS C (m_Wl_numberOf l D cA r i hr _) (ix0 _ _) kb_Gr_66 ws_Wl_numberOf d_Gr_supportFrom_15 rfl rfl (Nat.le_of_ble_eq_true rfl) rfl rfl ⟨by decide, by decide⟩ ⟨Nat.zero_le _, Nat.zero_le _⟩) (fun x15 e15 => ?_)
        subst e15
        refine mw_iload_n C 2 d_Gr_supportFrom_18 rfl rfl ?_
        refine mw_run0i C ix_Gr_Gr (mw_invV C (kk := 0) (m_Gr_leadsStrongly l D cA (4 * (r - 1) + i) b (by omega) hb _) ix_Gr_Gr kb_Gr_79 wm_Gr_leadsStrongly wv_Gr_leadsStrongly (by decide) rfl rfl d_Gr_supportFrom_19 rfl rfl (Nat.le_of_ble_eq_true rfl) rfl rfl ⟨by decide, by decide⟩ ⟨Nat.zero_le _, Nat.zero_le _⟩) (fun x19 e19 => ?_)
        subst e19
        have hlt := lb_nat_lt (lb ((mw_rs S [0, 1, 2, 3, 4, 5, 6, 7, 8]).2 3 (4 * (r - 1) + i)) b)
        refine mw_if_eqN C 28 d_Gr_supportFrom_22 (by decide) (by omega) (fun h22 => ?_) (fun h22 => ?_)
        ·
          refine mw_iincN C d_Gr_supportFrom_28 rfl (by decide) ?_
          refine mw_goto C 5 d_Gr_supportFrom_31 (by decide) ?_
          refine mw_eq _ _ _ (by exact And.intro rfl (And.intro (by
            show some (Sum.inl _) = _
            rw [gr_sup, show (lb (S.2 3 (4 * (r - 1) + i)) b).toNat = 0 from h22]; rfl) (And.intro rfl (And.intro rfl (And.intro rfl trivial))))) rfl rfl (ih (i + 1) (by omega))
        ·
          refine mw_iincN C d_Gr_supportFrom_25 rfl (by decide) ?_
          refine mw_iincN C d_Gr_supportFrom_28 rfl (by decide) ?_
          refine mw_goto C 5 d_Gr_supportFrom_31 (by decide) ?_
          have h1 : lb (S.2 3 (4 * (r - 1) + i)) b = true := lb_nat1 h22
          refine mw_eq _ _ _ (by exact And.intro rfl (And.intro (by
            show some (Sum.inl _) = _
            rw [gr_sup, h1]; rfl) (And.intro rfl (And.intro rfl (And.intro rfl trivial))))) rfl rfl (ih (i + 1) (by omega))
  refine mw_iconst C (v := nI 0) d_Gr_supportFrom_0 (by decide) ?_
  refine mw_istore_n C 3 d_Gr_supportFrom_1 rfl (by decide) ?_
  refine mw_iconst C (v := nI 0) d_Gr_supportFrom_2 (by decide) ?_
  refine mw_istore C d_Gr_supportFrom_3 (by decide) ?_
  exact mw_to _ (by exact And.intro rfl (And.intro rfl (And.intro rfl (And.intro rfl (And.intro rfl (trivial)))))) (L 4 0 rfl)
