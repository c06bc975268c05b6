/-! the class's calls that are refused -/
def mt_M (l : Launch) (tb : List Cond) (y : MethodName) (cc : ByteArray) (maxL : Nat) (ret : Option FieldType) (rm : Room) (D : va_G) (cl : List vw_C) (cA : Nat → ClassId) (sh : Nat → mw_H) (n : Nat) (as : List mw_V) (S : mw_S) (bd : Nat) (X : String) : Prop :=
  ∀ (ad : Nat → Nat) (sz : Nat), mt_Met l y (Cond.code y cc maxL ret :: mw_G tb) rm (fun v U => mw_Pc D cl cA tb ad sh n sz as S v U ∧ mt_X bd U) (mt_Qc X) 1 6 (mw_fr false (mw_W cA ad sh n S) sz)
theorem mt_M_of {l : Launch} {y : MethodName} {tb : List Cond} {rm : Room} {D : va_G} {cl : List vw_C} {cA : Nat → ClassId} {sh : Nat → mw_H} {n : Nat} {as : List mw_V} {S : mw_S} {cc : ByteArray} {maxL bd : Nat} {ret : Option FieldType} {X : String}
    (hy : plainName y.cls = true) (hlen : mw_words as ≤ maxL)
    (body : ∀ (p : Program) (e : Env) (s : State) (m : MethodId) (args : Array Value) (below : List Frame) (meth : Method) (c : Code) (A : Nat → Prop) (ad : Nat → Nat), mw_C p m c s args cc maxL y.cls (Cond.code y cc maxL ret) tb D cl cA A ad n false → (meth.locks = false ∧ c.exceptionTable.isEmpty = true ∧ mt_X bd s ∧ ∀ q, A q → s.heap.size ≤ q) →
      mw p l e rm s m args below meth c (mt_MQ below (mt_Qc X) args s 1 6 A) 0 0 D cl cA A ad sh n maxL 0 (mw_args 0 as) [] S) : mt_M l tb y cc maxL ret rm D cl cA sh n as S bd X := by
  intro ad sz
  refine mt_ofW (cc := cc) (maxL := maxL) (ret := ret) hy rfl ?_
  intro p e s m args below meth c s₁ B hml hv
  obtain ⟨⟨rfl, hsz, hP, hK, hN, hi⟩, hX⟩ := hv
  subst hsz
  have hts := atoms_spec (ws := Cond.code y cc maxL ret :: mw_G tb) B.pre
  have hown : s.vm.findClass y.cls = some m.cls := findClass_of_methodNamed B.named
  have hl := lv_entry (as.map (mw_tv ad)) (n := maxL) (by rw [mw_words_len]; exact hlen)
  rw [mw_args_map] at hl
  rw [lg_entry_eq]
  exact body p e s m _ below meth c _ ad ⟨⟨B.exec, B.bytes, hml, hown, hts⟩, hN, hK, fun q h => Or.inr h, hi, fun hw => by cases hw⟩ ⟨B.notSynchronized, B.noHandlers (hts _ List.mem_cons_self), hX, fun q h => by
    rcases h with ⟨h, -⟩ | h
    · cases h
    · exact h⟩ s.heap [] _ hP va_S.rf hl
def wIsN (x : Int32) : Prop := ∃ k, k < 4 ∧ x = nI k
def wAct (S : mw_S) (x : Int32) : Prop := ∃ k, k < 4 ∧ x = nI k ∧ ¬ x = S.1 0 0
def wIn (lo hi : Nat) (x : Int32) : Prop := ∃ a, lo ≤ a ∧ a ≤ hi ∧ x = nI a
theorem wIn_of {x : Int32} {hi : Nat} (hh : hi < 2 ^ 31) (h1 : ¬ x < nI 1) (h2 : x ≤ nI hi) : wIn 1 hi x := by
  have h0 : ¬ x < 0 := fun h => h1 (Int32.lt_trans h (by decide))
  obtain ⟨j, hj, rfl⟩ := nI_of2 (nI_toInt hh) h0 h2
  exact ⟨j, Nat.not_lt.mp (fun h => h1 (nI_lt h (by decide))), hj, rfl⟩
theorem wIn0_of {x : Int32} {hi : Nat} (hh : hi < 2 ^ 31) (h1 : ¬ x < 0) (h2 : x ≤ nI hi) : wIn 0 hi x := by
  obtain ⟨j, hj, rfl⟩ := nI_of2 (nI_toInt hh) h1 h2
  exact ⟨j, Nat.zero_le _, hj, rfl⟩
set_option maxHeartbeats 4000000 in
set_option maxRecDepth 100000 in
theorem mt_Wl_transfer_IAE (l : Launch) (htr : l.stackTraces = false) (D : va_G) (cA : Nat → ClassId) (bd : Nat) (x1 x2 x3 x4 : Int32) (S : mw_S) (h : ¬ (wAct S x1 ∧ wIsN x2 ∧ wIsN x3 ∧ wIn 1 99 x4)) : mt_M l lw_tbl y_Wl_transfer b_Wl_transfer 6 (some .int) { frames := 6, cells := 1, slots := 6, locals := 82 } D vCl cA sh_Wl 69 [.inr (.inr 0), .inl x1, .inl x2, .inl x3, .inl x4] (S) bd "java/lang/IllegalArgumentException" := by
  refine mt_M_of (by decide) (Nat.le_of_ble_eq_true rfl) ?_
  intro p e s m args below meth c A ad C hE
  refine mw_aload_n C 0 d_Wl_transfer_0 rfl rfl ?_
  refine mw_iload_n C 1 d_Wl_transfer_1 rfl rfl ?_
  refine mw_run0i C ix_Wl_Wl (mw_invV C (kk := 0) (m_Wl_isActive l D cA x1 _) ix_Wl_Wl kb_Wl_45 wm_Wl_isActive wv_Wl_isActive (by decide) rfl rfl d_Wl_transfer_2 rfl rfl (Nat.le_of_ble_eq_true rfl) rfl rfl ⟨by decide, by decide⟩ ⟨Nat.zero_le _, Nat.zero_le _⟩) (fun x2 e2 => ?_)
  rcases e2 with ⟨rfl, hk1⟩ | ⟨rfl, hk1⟩
  ·
    refine mw_if_eqN C 22 d_Wl_transfer_5 (by decide) (by omega) (fun h5 => ?_) (fun h5 => ?_)
    · exact absurd h5 (by decide)
    ·
      refine mw_iload_n C 2 d_Wl_transfer_8 rfl rfl ?_
      refine mw_run0i C (ix0 _ _) (mw_invS C (m_Wl_isAccount l D cA x2 _) (ix0 _ _) kb_Wl_48 ws_Wl_isAccount d_Wl_transfer_9 rfl rfl (Nat.le_of_ble_eq_true rfl) rfl rfl ⟨by decide, by decide⟩ ⟨Nat.zero_le _, Nat.zero_le _⟩) (fun x9 e9 => ?_)
      rcases e9 with ⟨rfl, hk2⟩ | ⟨rfl, hk2⟩
      ·
        refine mw_if_eqN C 22 d_Wl_transfer_12 (by decide) (by omega) (fun h12 => ?_) (fun h12 => ?_)
        · exact absurd h12 (by decide)
        ·
          refine mw_iload_n C 3 d_Wl_transfer_15 rfl rfl ?_
          refine mw_run0i C (ix0 _ _) (mw_invS C (m_Wl_isAccount l D cA x3 _) (ix0 _ _) kb_Wl_48 ws_Wl_isAccount d_Wl_transfer_16 rfl rfl (Nat.le_of_ble_eq_true rfl) rfl rfl ⟨by decide, by decide⟩ ⟨Nat.zero_le _, Nat.zero_le _⟩) (fun x16 e16 => ?_)
          rcases e16 with ⟨rfl, hk3⟩ | ⟨rfl, hk3⟩
          ·
            refine mw_if_neN C 32 d_Wl_transfer_19 (by decide) (by omega) (fun h19 => ?_) (fun h19 => ?_)
            ·
              refine mw_iload C d_Wl_transfer_32 rfl ?_
              refine mw_iconst C (v := nI 1) d_Wl_transfer_34 (by decide) ?_
              refine mw_icmp_lt C 45 d_Wl_transfer_35 (by decide) (fun h35 => ?_) (fun h35 => ?_)
              ·
                exact mt_throw C (X := "java/lang/IllegalArgumentException") (is := 58) htr hE.2.2.2 hE.1 hE.2.1 hE.2.2.1 rfl (List.mem_of_getElem? (i := 1) rfl) wl_51 wn_IAE wz_IAE at_IAE (by decide +kernel) d_Wl_transfer_45 d_Wl_transfer_48 d_Wl_transfer_49 d_Wl_transfer_51 d_Wl_transfer_54 (by decide) (by decide) (by decide) (by decide)
              ·
                refine mw_iload C d_Wl_transfer_38 rfl ?_
                refine mw_bipush C (v := nI 99) d_Wl_transfer_40 (by decide) ?_
                refine mw_icmp_le C 55 d_Wl_transfer_42 (by decide) (fun h42 => ?_) (fun h42 => ?_)
                · exact absurd ⟨hk1, hk2, hk3, wIn_of (by decide) h35 h42⟩ h
                ·
                  exact mt_throw C (X := "java/lang/IllegalArgumentException") (is := 58) htr hE.2.2.2 hE.1 hE.2.1 hE.2.2.1 rfl (List.mem_of_getElem? (i := 1) rfl) wl_51 wn_IAE wz_IAE at_IAE (by decide +kernel) d_Wl_transfer_45 d_Wl_transfer_48 d_Wl_transfer_49 d_Wl_transfer_51 d_Wl_transfer_54 (by decide) (by decide) (by decide) (by decide)
            · exact absurd h19 (by decide)
          ·
            refine mw_if_neN C 32 d_Wl_transfer_19 (by decide) (by omega) (fun h19 => ?_) (fun h19 => ?_)
            · exact absurd h19 (by decide)
            ·
              exact mt_throw C (X := "java/lang/IllegalArgumentException") (is := 53) htr hE.2.2.2 hE.1 hE.2.1 hE.2.2.1 rfl (List.mem_of_getElem? (i := 0) rfl) wl_51 wn_IAE wz_IAE at_IAE (by decide +kernel) d_Wl_transfer_22 d_Wl_transfer_25 d_Wl_transfer_26 d_Wl_transfer_28 d_Wl_transfer_31 (by decide) (by decide) (by decide) (by decide)
      ·
        refine mw_if_eqN C 22 d_Wl_transfer_12 (by decide) (by omega) (fun h12 => ?_) (fun h12 => ?_)
        ·
          exact mt_throw C (X := "java/lang/IllegalArgumentException") (is := 53) htr hE.2.2.2 hE.1 hE.2.1 hE.2.2.1 rfl (List.mem_of_getElem? (i := 0) rfl) wl_51 wn_IAE wz_IAE at_IAE (by decide +kernel) d_Wl_transfer_22 d_Wl_transfer_25 d_Wl_transfer_26 d_Wl_transfer_28 d_Wl_transfer_31 (by decide) (by decide) (by decide) (by decide)
        · exact absurd h12 (by decide)
  ·
    refine mw_if_eqN C 22 d_Wl_transfer_5 (by decide) (by omega) (fun h5 => ?_) (fun h5 => ?_)
    ·
      exact mt_throw C (X := "java/lang/IllegalArgumentException") (is := 53) htr hE.2.2.2 hE.1 hE.2.1 hE.2.2.1 rfl (List.mem_of_getElem? (i := 0) rfl) wl_51 wn_IAE wz_IAE at_IAE (by decide +kernel) d_Wl_transfer_22 d_Wl_transfer_25 d_Wl_transfer_26 d_Wl_transfer_28 d_Wl_transfer_31 (by decide) (by decide) (by decide) (by decide)
    · exact absurd h5 (by decide)
set_option maxHeartbeats 4000000 in
set_option maxRecDepth 100000 in
theorem mt_Wl_transfer_ISE (l : Launch) (htr : l.stackTraces = false) (D : va_G) (cA : Nat → ClassId) (bd : Nat) (x1 x2 x3 x4 : Int32) (S : mw_S) (k1 cn : Nat) (hk : k1 < 4) (he : x1 = nI k1) (hne : ¬ x1 = S.1 0 0) (h2 : wIsN x2) (h3 : wIsN x3) (h4 : wIn 1 99 x4) (hc : S.1 (9 + 15 * k1 + 8) 1 = nI cn) (hc1 : 12 ≤ cn) (hc2 : cn < 2 ^ 31) : mt_M l lw_tbl y_Wl_transfer b_Wl_transfer 6 (some .int) { frames := 6, cells := 1, slots := 6, locals := 82 } D vCl cA sh_Wl 69 [.inr (.inr 0), .inl x1, .inl x2, .inl x3, .inl x4] (S) bd "java/lang/IllegalStateException" := by
  refine mt_M_of (by decide) (Nat.le_of_ble_eq_true rfl) ?_
  intro p e s m args below meth c A ad C hE
  refine mw_aload_n C 0 d_Wl_transfer_0 rfl rfl ?_
  refine mw_iload_n C 1 d_Wl_transfer_1 rfl rfl ?_
  refine mw_run0i C ix_Wl_Wl (mw_invV C (kk := 0) (m_Wl_isActive l D cA x1 _) ix_Wl_Wl kb_Wl_45 wm_Wl_isActive wv_Wl_isActive (by decide) rfl rfl d_Wl_transfer_2 rfl rfl (Nat.le_of_ble_eq_true rfl) rfl rfl ⟨by decide, by decide⟩ ⟨Nat.zero_le _, Nat.zero_le _⟩) (fun x2 e2 => ?_)
  rcases e2 with ⟨rfl, hk1⟩ | ⟨rfl, hk1⟩
  ·
    refine mw_if_eqN C 22 d_Wl_transfer_5 (by decide) (by omega) (fun h5 => ?_) (fun h5 => ?_)
    · exact absurd h5 (by decide)
    ·
      refine mw_iload_n C 2 d_Wl_transfer_8 rfl rfl ?_
      refine mw_run0i C (ix0 _ _) (mw_invS C (m_Wl_isAccount l D cA x2 _) (ix0 _ _) kb_Wl_48 ws_Wl_isAccount d_Wl_transfer_9 rfl rfl (Nat.le_of_ble_eq_true rfl) rfl rfl ⟨by decide, by decide⟩ ⟨Nat.zero_le _, Nat.zero_le _⟩) (fun x9 e9 => ?_)
      rcases e9 with ⟨rfl, hk2⟩ | ⟨rfl, hk2⟩
      ·
        refine mw_if_eqN C 22 d_Wl_transfer_12 (by decide) (by omega) (fun h12 => ?_) (fun h12 => ?_)
        · exact absurd h12 (by decide)
        ·
          refine mw_iload_n C 3 d_Wl_transfer_15 rfl rfl ?_
          refine mw_run0i C (ix0 _ _) (mw_invS C (m_Wl_isAccount l D cA x3 _) (ix0 _ _) kb_Wl_48 ws_Wl_isAccount d_Wl_transfer_16 rfl rfl (Nat.le_of_ble_eq_true rfl) rfl rfl ⟨by decide, by decide⟩ ⟨Nat.zero_le _, Nat.zero_le _⟩) (fun x16 e16 => ?_)
          rcases e16 with ⟨rfl, hk3⟩ | ⟨rfl, hk3⟩
          ·
            refine mw_if_neN C 32 d_Wl_transfer_19 (by decide) (by omega) (fun h19 => ?_) (fun h19 => ?_)
            ·
              obtain ⟨a, ha1, ha2, rfl⟩ := h4
              refine mw_iload C d_Wl_transfer_32 rfl ?_
              refine mw_iconst C (v := nI 1) d_Wl_transfer_34 (by decide) ?_
              refine mw_icmp_ltN C 45 d_Wl_transfer_35 (by decide) (by omega) (by omega) (fun h35 => ?_) (fun h35 => ?_)
              · exfalso; omega
              ·
                refine mw_iload C d_Wl_transfer_38 rfl ?_
                refine mw_bipush C (v := nI 99) d_Wl_transfer_40 (by decide) ?_
                refine mw_icmp_leN C 55 d_Wl_transfer_42 (by decide) (by omega) (by omega) (fun h42 => ?_) (fun h42 => ?_)
                ·
                  subst he
                  obtain rfl | rfl | rfl | rfl : k1 = 0 ∨ k1 = 1 ∨ k1 = 2 ∨ k1 = 3 := by omega
                  ·
                    refine mw_aload_n C 0 d_Wl_transfer_55 rfl rfl ?_
                    refine mw_getr C f_Wl_38 d_Wl_transfer_56 (by decide) rfl rfl ?_
                    refine mw_iload_n C 1 d_Wl_transfer_59 rfl rfl ?_
                    refine mw_aaldN C d_Wl_transfer_60 (by decide) rfl (by omega) (by decide) rfl ?_
                    refine mw_getr C f_Wl_60 d_Wl_transfer_61 (by decide) rfl rfl ?_
                    refine mw_astore C d_Wl_transfer_64 (by decide) ?_
                    refine mw_aload C d_Wl_transfer_66 rfl ?_
                    refine mw_run0i C ix_Tq0_Wl (mw_invV C (kk := 0) (m_Tq_isFull l D cA _ cn hc2 hc) ix_Tq0_Wl kb_Wl_64 wm_Tq_isFull wv_Tq_isFull (by decide) rfl rfl d_Wl_transfer_68 rfl rfl (Nat.le_of_ble_eq_true rfl) rfl rfl ⟨by decide, by decide⟩ ⟨Nat.zero_le _, Nat.zero_le _⟩) (fun x68 e68 => ?_)
                    rcases e68 with ⟨rfl, hf⟩ | ⟨rfl, hf⟩
                    ·
                      refine mw_if_eqN C 84 d_Wl_transfer_71 (by decide) (by omega) (fun h71 => ?_) (fun h71 => ?_)
                      · exact absurd h71 (by decide)
                      ·
                        exact mt_throw C (X := "java/lang/IllegalStateException") (is := 72) htr hE.2.2.2 hE.1 hE.2.1 hE.2.2.1 rfl (List.mem_of_getElem? (i := 2) rfl) wl_70 wn_ISE wz_ISE at_ISE (by decide +kernel) d_Wl_transfer_74 d_Wl_transfer_77 d_Wl_transfer_78 d_Wl_transfer_80 d_Wl_transfer_83 (by decide) (by decide) (by decide) (by decide)
                    · exfalso; omega
                  ·
                    refine mw_aload_n C 0 d_Wl_transfer_55 rfl rfl ?_
                    refine mw_getr C f_Wl_38 d_Wl_transfer_56 (by decide) rfl rfl ?_
                    refine mw_iload_n C 1 d_Wl_transfer_59 rfl rfl ?_
                    refine mw_aaldN C d_Wl_transfer_60 (by decide) rfl (by omega) (by decide) rfl ?_
                    refine mw_getr C f_Wl_60 d_Wl_transfer_61 (by decide) rfl rfl ?_
                    refine mw_astore C d_Wl_transfer_64 (by decide) ?_
                    refine mw_aload C d_Wl_transfer_66 rfl ?_
                    refine mw_run0i C ix_Tq1_Wl (mw_invV C (kk := 0) (m_Tq_isFull l D cA _ cn hc2 hc) ix_Tq1_Wl kb_Wl_64 wm_Tq_isFull wv_Tq_isFull (by decide) rfl rfl d_Wl_transfer_68 rfl rfl (Nat.le_of_ble_eq_true rfl) rfl rfl ⟨by decide, by decide⟩ ⟨Nat.zero_le _, Nat.zero_le _⟩) (fun x68 e68 => ?_)
                    rcases e68 with ⟨rfl, hf⟩ | ⟨rfl, hf⟩
                    ·
                      refine mw_if_eqN C 84 d_Wl_transfer_71 (by decide) (by omega) (fun h71 => ?_) (fun h71 => ?_)
                      · exact absurd h71 (by decide)
                      ·
                        exact mt_throw C (X := "java/lang/IllegalStateException") (is := 72) htr hE.2.2.2 hE.1 hE.2.1 hE.2.2.1 rfl (List.mem_of_getElem? (i := 2) rfl) wl_70 wn_ISE wz_ISE at_ISE (by decide +kernel) d_Wl_transfer_74 d_Wl_transfer_77 d_Wl_transfer_78 d_Wl_transfer_80 d_Wl_transfer_83 (by decide) (by decide) (by decide) (by decide)
                    · exfalso; omega
                  ·
                    refine mw_aload_n C 0 d_Wl_transfer_55 rfl rfl ?_
                    refine mw_getr C f_Wl_38 d_Wl_transfer_56 (by decide) rfl rfl ?_
                    refine mw_iload_n C 1 d_Wl_transfer_59 rfl rfl ?_
                    refine mw_aaldN C d_Wl_transfer_60 (by decide) rfl (by omega) (by decide) rfl ?_
                    refine mw_getr C f_Wl_60 d_Wl_transfer_61 (by decide) rfl rfl ?_
                    refine mw_astore C d_Wl_transfer_64 (by decide) ?_
                    refine mw_aload C d_Wl_transfer_66 rfl ?_
                    refine mw_run0i C ix_Tq2_Wl (mw_invV C (kk := 0) (m_Tq_isFull l D cA _ cn hc2 hc) ix_Tq2_Wl kb_Wl_64 wm_Tq_isFull wv_Tq_isFull (by decide) rfl rfl d_Wl_transfer_68 rfl rfl (Nat.le_of_ble_eq_true rfl) rfl rfl ⟨by decide, by decide⟩ ⟨Nat.zero_le _, Nat.zero_le _⟩) (fun x68 e68 => ?_)
                    rcases e68 with ⟨rfl, hf⟩ | ⟨rfl, hf⟩
                    ·
                      refine mw_if_eqN C 84 d_Wl_transfer_71 (by decide) (by omega) (fun h71 => ?_) (fun h71 => ?_)
                      · exact absurd h71 (by decide)
                      ·
                        exact mt_throw C (X := "java/lang/IllegalStateException") (is := 72) htr hE.2.2.2 hE.1 hE.2.1 hE.2.2.1 rfl (List.mem_of_getElem? (i := 2) rfl) wl_70 wn_ISE wz_ISE at_ISE (by decide +kernel) d_Wl_transfer_74 d_Wl_transfer_77 d_Wl_transfer_78 d_Wl_transfer_80 d_Wl_transfer_83 (by decide) (by decide) (by decide) (by decide)
                    · exfalso; omega
                  ·
                    refine mw_aload_n C 0 d_Wl_transfer_55 rfl rfl ?_
                    refine mw_getr C f_Wl_38 d_Wl_transfer_56 (by decide) rfl rfl ?_
                    refine mw_iload_n C 1 d_Wl_transfer_59 rfl rfl ?_
                    refine mw_aaldN C d_Wl_transfer_60 (by decide) rfl (by omega) (by decide) rfl ?_
                    refine mw_getr C f_Wl_60 d_Wl_transfer_61 (by decide) rfl rfl ?_
                    refine mw_astore C d_Wl_transfer_64 (by decide) ?_
                    refine mw_aload C d_Wl_transfer_66 rfl ?_
                    refine mw_run0i C ix_Tq3_Wl (mw_invV C (kk := 0) (m_Tq_isFull l D cA _ cn hc2 hc) ix_Tq3_Wl kb_Wl_64 wm_Tq_isFull wv_Tq_isFull (by decide) rfl rfl d_Wl_transfer_68 rfl rfl (Nat.le_of_ble_eq_true rfl) rfl rfl ⟨by decide, by decide⟩ ⟨Nat.zero_le _, Nat.zero_le _⟩) (fun x68 e68 => ?_)
                    rcases e68 with ⟨rfl, hf⟩ | ⟨rfl, hf⟩
                    ·
                      refine mw_if_eqN C 84 d_Wl_transfer_71 (by decide) (by omega) (fun h71 => ?_) (fun h71 => ?_)
                      · exact absurd h71 (by decide)
                      ·
                        exact mt_throw C (X := "java/lang/IllegalStateException") (is := 72) htr hE.2.2.2 hE.1 hE.2.1 hE.2.2.1 rfl (List.mem_of_getElem? (i := 2) rfl) wl_70 wn_ISE wz_ISE at_ISE (by decide +kernel) d_Wl_transfer_74 d_Wl_transfer_77 d_Wl_transfer_78 d_Wl_transfer_80 d_Wl_transfer_83 (by decide) (by decide) (by decide) (by decide)
                    · exfalso; omega
                · exfalso; omega
            · exact absurd h19 (by decide)
          · exact absurd h3 hk3
      · exact absurd h2 hk2
  · exact absurd ⟨k1, hk, he, hne⟩ hk1
set_option maxHeartbeats 4000000 in
set_option maxRecDepth 100000 in
theorem mt_Wl_run_IAE (l : Launch) (htr : l.stackTraces = false) (D : va_G) (cA : Nat → ClassId) (bd : Nat) (x1 : Int32) (S : mw_S) (h : ¬ wIn 0 100 x1) : mt_M l lw_tbl y_Wl_run b_Wl_run 3 (some .int) { frames := 6, cells := 1, slots := 6, locals := 148 } D vCl cA sh_Wl 69 [.inr (.inr 0), .inl x1] (S) bd "java/lang/IllegalArgumentException" := by
  refine mt_M_of (by decide) (Nat.le_of_ble_eq_true rfl) ?_
  intro p e s m args below meth c A ad C hE
  refine mw_iload_n C 1 d_Wl_run_0 rfl rfl ?_
  refine mw_if_lt C 10 d_Wl_run_1 (by decide) (fun h1 => ?_) (fun h1 => ?_)
  ·
    exact mt_throw C (X := "java/lang/IllegalArgumentException") (is := 88) htr hE.2.2.2 hE.1 hE.2.1 hE.2.2.1 rfl (List.mem_of_getElem? (i := 3) rfl) wl_51 wn_IAE wz_IAE at_IAE (by decide +kernel) d_Wl_run_10 d_Wl_run_13 d_Wl_run_14 d_Wl_run_16 d_Wl_run_19 (by decide) (by decide) (by decide) (by decide)
  ·
    refine mw_iload_n C 1 d_Wl_run_4 rfl rfl ?_
    refine mw_bipush C (v := nI 100) d_Wl_run_5 (by decide) ?_
    refine mw_icmp_le C 20 d_Wl_run_7 (by decide) (fun h7 => ?_) (fun h7 => ?_)
    · exact absurd (wIn0_of (by decide) h1 h7) h
    ·
      exact mt_throw C (X := "java/lang/IllegalArgumentException") (is := 88) htr hE.2.2.2 hE.1 hE.2.1 hE.2.2.1 rfl (List.mem_of_getElem? (i := 3) rfl) wl_51 wn_IAE wz_IAE at_IAE (by decide +kernel) d_Wl_run_10 d_Wl_run_13 d_Wl_run_14 d_Wl_run_16 d_Wl_run_19 (by decide) (by decide) (by decide) (by decide)
set_option maxHeartbeats 4000000 in
set_option maxRecDepth 100000 in
theorem mt_Wl_forge_IAE (l : Launch) (htr : l.stackTraces = false) (D : va_G) (cA : Nat → ClassId) (bd : Nat) (x1 x2 x4 : Int32) (x3 : Int64) (S : mw_S) (h : ¬ (wIn 1 12 x1 ∧ wIn 0 15 x2 ∧ x3 &&& (-281474976710656) = 0 ∧ tOK x4)) : mt_M l lw_tbl y_Wl_forge b_Wl_forge 6 (some .int) { frames := 6, cells := 1, slots := 6, locals := 82 } D vCl cA sh_Wl 69 [.inr (.inr 0), .inl x1, .inl x2, .inr (.inl x3), .inl x4] (S) bd "java/lang/IllegalArgumentException" := by
  refine mt_M_of (by decide) (Nat.le_of_ble_eq_true rfl) ?_
  intro p e s m args below meth c A ad C hE
  refine mw_iload_n C 1 d_Wl_forge_0 rfl rfl ?_
  refine mw_iconst C (v := nI 1) d_Wl_forge_1 (by decide) ?_
  refine mw_icmp_lt C 21 d_Wl_forge_2 (by decide) (fun h2 => ?_) (fun h2 => ?_)
  ·
    exact mt_throw C (X := "java/lang/IllegalArgumentException") (is := 98) htr hE.2.2.2 hE.1 hE.2.1 hE.2.2.1 rfl (List.mem_of_getElem? (i := 4) rfl) wl_51 wn_IAE wz_IAE at_IAE (by decide +kernel) d_Wl_forge_21 d_Wl_forge_24 d_Wl_forge_25 d_Wl_forge_27 d_Wl_forge_30 (by decide) (by decide) (by decide) (by decide)
  ·
    refine mw_iload_n C 1 d_Wl_forge_5 rfl rfl ?_
    refine mw_bipush C (v := nI 12) d_Wl_forge_6 (by decide) ?_
    refine mw_icmp_gt C 21 d_Wl_forge_8 (by decide) (fun h8 => ?_) (fun h8 => ?_)
    ·
      exact mt_throw C (X := "java/lang/IllegalArgumentException") (is := 98) htr hE.2.2.2 hE.1 hE.2.1 hE.2.2.1 rfl (List.mem_of_getElem? (i := 4) rfl) wl_51 wn_IAE wz_IAE at_IAE (by decide +kernel) d_Wl_forge_21 d_Wl_forge_24 d_Wl_forge_25 d_Wl_forge_27 d_Wl_forge_30 (by decide) (by decide) (by decide) (by decide)
    ·
      refine mw_iload_n C 2 d_Wl_forge_11 rfl rfl ?_
      refine mw_if_lt C 21 d_Wl_forge_12 (by decide) (fun h12 => ?_) (fun h12 => ?_)
      ·
        exact mt_throw C (X := "java/lang/IllegalArgumentException") (is := 98) htr hE.2.2.2 hE.1 hE.2.1 hE.2.2.1 rfl (List.mem_of_getElem? (i := 4) rfl) wl_51 wn_IAE wz_IAE at_IAE (by decide +kernel) d_Wl_forge_21 d_Wl_forge_24 d_Wl_forge_25 d_Wl_forge_27 d_Wl_forge_30 (by decide) (by decide) (by decide) (by decide)
      ·
        refine mw_iload_n C 2 d_Wl_forge_15 rfl rfl ?_
        refine mw_bipush C (v := nI 15) d_Wl_forge_16 (by decide) ?_
        refine mw_icmp_le C 31 d_Wl_forge_18 (by decide) (fun h18 => ?_) (fun h18 => ?_)
        ·
          refine mw_lload_n C 3 d_Wl_forge_31 rfl rfl ?_
          refine mw_ldc2 C kc_Wl_100 d_Wl_forge_32 ?_
          refine mw_land C d_Wl_forge_35 ?_
          refine mw_lconst C (v := 0) d_Wl_forge_36 (by decide) ?_
          refine mw_lcmp C d_Wl_forge_37 ?_
          refine mw_if_ne C 49 d_Wl_forge_38 (by decide) (fun h38 => ?_) (fun h38 => ?_)
          ·
            exact mt_throw C (X := "java/lang/IllegalArgumentException") (is := 105) htr hE.2.2.2 hE.1 hE.2.1 hE.2.2.1 rfl (List.mem_of_getElem? (i := 5) rfl) wl_51 wn_IAE wz_IAE at_IAE (by decide +kernel) d_Wl_forge_49 d_Wl_forge_52 d_Wl_forge_53 d_Wl_forge_55 d_Wl_forge_58 (by decide) (by decide) (by decide) (by decide)
          ·
            refine mw_iload C d_Wl_forge_41 rfl ?_
            refine mw_run0i C (ix0 _ _) (mw_invS C (m_Wl_isTransferOrNone l D cA x4 _) (ix0 _ _) kb_Wl_102 ws_Wl_isTransferOrNone d_Wl_forge_43 rfl rfl (Nat.le_of_ble_eq_true rfl) rfl rfl ⟨by decide, by decide⟩ ⟨Nat.zero_le _, Nat.zero_le _⟩) (fun x43 e43 => ?_)
            rcases e43 with ⟨rfl, hk⟩ | ⟨rfl, hk⟩
            ·
              refine mw_if_neN C 59 d_Wl_forge_46 (by decide) (by omega) (fun h46 => ?_) (fun h46 => ?_)
              · exact absurd ⟨wIn_of (by decide) h2 (Int32.not_lt.mp h8), wIn0_of (by decide) h12 h18, (lg_cmp_eq _ _).mp h38, hk⟩ h
              · exact absurd h46 (by decide)
            ·
              refine mw_if_neN C 59 d_Wl_forge_46 (by decide) (by omega) (fun h46 => ?_) (fun h46 => ?_)
              · exact absurd h46 (by decide)
              ·
                exact mt_throw C (X := "java/lang/IllegalArgumentException") (is := 105) htr hE.2.2.2 hE.1 hE.2.1 hE.2.2.1 rfl (List.mem_of_getElem? (i := 5) rfl) wl_51 wn_IAE wz_IAE at_IAE (by decide +kernel) d_Wl_forge_49 d_Wl_forge_52 d_Wl_forge_53 d_Wl_forge_55 d_Wl_forge_58 (by decide) (by decide) (by decide) (by decide)
        ·
          exact mt_throw C (X := "java/lang/IllegalArgumentException") (is := 98) htr hE.2.2.2 hE.1 hE.2.1 hE.2.2.1 rfl (List.mem_of_getElem? (i := 4) rfl) wl_51 wn_IAE wz_IAE at_IAE (by decide +kernel) d_Wl_forge_21 d_Wl_forge_24 d_Wl_forge_25 d_Wl_forge_27 d_Wl_forge_30 (by decide) (by decide) (by decide) (by decide)
set_option maxHeartbeats 4000000 in
set_option maxRecDepth 100000 in
theorem mt_Wl_forge_ISE (l : Launch) (htr : l.stackTraces = false) (D : va_G) (cA : Nat → ClassId) (bd : Nat) (x1 x2 x4 : Int32) (x3 : Int64) (S : mw_S) (fg : Nat) (h1 : wIn 1 12 x1) (h2 : wIn 0 15 x2) (h3 : x3 &&& (-281474976710656) = 0) (h4 : tOK x4) (hf : S.1 0 5 = nI fg) (hfl : fg < 2 ^ 31) (h : S.1 0 0 = -1 ∨ 24 ≤ fg) : mt_M l lw_tbl y_Wl_forge b_Wl_forge 6 (some .int) { frames := 6, cells := 1, slots := 6, locals := 82 } D vCl cA sh_Wl 69 [.inr (.inr 0), .inl x1, .inl x2, .inr (.inl x3), .inl x4] (S) bd "java/lang/IllegalStateException" := by
  refine mt_M_of (by decide) (Nat.le_of_ble_eq_true rfl) ?_
  intro p e s m args below meth c A ad C hE
  obtain ⟨a, ha1, ha2, rfl⟩ := h1
  obtain ⟨b, hb1, hb2, rfl⟩ := h2
  refine mw_iload_n C 1 d_Wl_forge_0 rfl rfl ?_
  refine mw_iconst C (v := nI 1) d_Wl_forge_1 (by decide) ?_
  refine mw_icmp_ltN C 21 d_Wl_forge_2 (by decide) (by omega) (by omega) (fun h2 => ?_) (fun h2 => ?_)
  · exfalso; omega
  ·
    refine mw_iload_n C 1 d_Wl_forge_5 rfl rfl ?_
    refine mw_bipush C (v := nI 12) d_Wl_forge_6 (by decide) ?_
    refine mw_icmp_gtN C 21 d_Wl_forge_8 (by decide) (by omega) (by omega) (fun h8 => ?_) (fun h8 => ?_)
    · exfalso; omega
    ·
      refine mw_iload_n C 2 d_Wl_forge_11 rfl rfl ?_
      refine mw_if_ltN C 21 d_Wl_forge_12 (by decide) (by omega) ?_
      refine mw_iload_n C 2 d_Wl_forge_15 rfl rfl ?_
      refine mw_bipush C (v := nI 15) d_Wl_forge_16 (by decide) ?_
      refine mw_icmp_leN C 31 d_Wl_forge_18 (by decide) (by omega) (by omega) (fun h18 => ?_) (fun h18 => ?_)
      ·
        refine mw_lload_n C 3 d_Wl_forge_31 rfl rfl ?_
        refine mw_ldc2 C kc_Wl_100 d_Wl_forge_32 ?_
        refine mw_land C d_Wl_forge_35 ?_
        refine mw_lconst C (v := 0) d_Wl_forge_36 (by decide) ?_
        refine mw_lcmp C d_Wl_forge_37 ?_
        refine mw_if_ne C 49 d_Wl_forge_38 (by decide) (fun h38 => ?_) (fun h38 => ?_)
        · exact absurd ((lg_cmp_eq _ _).mpr h3) h38
        ·
          refine mw_iload C d_Wl_forge_41 rfl ?_
          refine mw_run0i C (ix0 _ _) (mw_invS C (m_Wl_isTransferOrNone l D cA x4 _) (ix0 _ _) kb_Wl_102 ws_Wl_isTransferOrNone d_Wl_forge_43 rfl rfl (Nat.le_of_ble_eq_true rfl) rfl rfl ⟨by decide, by decide⟩ ⟨Nat.zero_le _, Nat.zero_le _⟩) (fun x43 e43 => ?_)
          rcases e43 with ⟨rfl, hk⟩ | ⟨rfl, hk⟩
          ·
            refine mw_if_neN C 59 d_Wl_forge_46 (by decide) (by omega) (fun h46 => ?_) (fun h46 => ?_)
            ·
              refine mw_aload_n C 0 d_Wl_forge_59 rfl rfl ?_
              refine mw_geti C f_Wl_26 d_Wl_forge_60 (by decide) rfl rfl ?_
              refine mw_iconst C (v := (-1)) d_Wl_forge_63 (by decide) ?_
              refine mw_icmp_eq C 76 d_Wl_forge_64 (by decide) (fun h64 => ?_) (fun h64 => ?_)
              ·
                exact mt_throw C (X := "java/lang/IllegalStateException") (is := 110) htr hE.2.2.2 hE.1 hE.2.1 hE.2.2.1 rfl (List.mem_of_getElem? (i := 6) rfl) wl_70 wn_ISE wz_ISE at_ISE (by decide +kernel) d_Wl_forge_76 d_Wl_forge_79 d_Wl_forge_80 d_Wl_forge_82 d_Wl_forge_85 (by decide) (by decide) (by decide) (by decide)
              ·
                refine mw_aload_n C 0 d_Wl_forge_67 rfl rfl ?_
                refine mw_geti C f_Wl_107 d_Wl_forge_68 (by decide) rfl rfl ?_
                refine mw_eqi hf ?_
                refine mw_bipush C (v := nI 24) d_Wl_forge_71 (by decide) ?_
                refine mw_icmp_ltN C 86 d_Wl_forge_73 (by decide) (by omega) (by omega) (fun h73 => ?_) (fun h73 => ?_)
                ·
                  rcases h with h | h
                  · exact absurd h h64
                  · exfalso; omega
                ·
                  exact mt_throw C (X := "java/lang/IllegalStateException") (is := 110) htr hE.2.2.2 hE.1 hE.2.1 hE.2.2.1 rfl (List.mem_of_getElem? (i := 6) rfl) wl_70 wn_ISE wz_ISE at_ISE (by decide +kernel) d_Wl_forge_76 d_Wl_forge_79 d_Wl_forge_80 d_Wl_forge_82 d_Wl_forge_85 (by decide) (by decide) (by decide) (by decide)
            · exact absurd h46 (by decide)
          · exact absurd h4 hk
      · exfalso; omega
set_option maxHeartbeats 4000000 in
set_option maxRecDepth 100000 in
theorem mt_Wl_whisper_IAE (l : Launch) (htr : l.stackTraces = false) (D : va_G) (cA : Nat → ClassId) (bd : Nat) (x1 x2 x3 : Int32) (S : mw_S) (nv : Nat) (hv : S.1 2 4 = nI nv) (hvl : nv < 2 ^ 30) (h : ¬ (wIn 0 2 x1 ∧ wAct S x2 ∧ wIn 1 nv x3)) : mt_M l lw_tbl y_Wl_whisper b_Wl_whisper 4 (some .int) { frames := 6, cells := 1, slots := 6, locals := 82 } D vCl cA sh_Wl 69 [.inr (.inr 0), .inl x1, .inl x2, .inl x3] (S) bd "java/lang/IllegalArgumentException" := by
  refine mt_M_of (by decide) (Nat.le_of_ble_eq_true rfl) ?_
  intro p e s m args below meth c A ad C hE
  refine mw_iload_n C 1 d_Wl_whisper_0 rfl rfl ?_
  refine mw_if_lt C 28 d_Wl_whisper_1 (by decide) (fun h1 => ?_) (fun h1 => ?_)
  ·
    exact mt_throw C (X := "java/lang/IllegalArgumentException") (is := 121) htr hE.2.2.2 hE.1 hE.2.1 hE.2.2.1 rfl (List.mem_of_getElem? (i := 7) rfl) wl_51 wn_IAE wz_IAE at_IAE (by decide +kernel) d_Wl_whisper_28 d_Wl_whisper_31 d_Wl_whisper_32 d_Wl_whisper_34 d_Wl_whisper_37 (by decide) (by decide) (by decide) (by decide)
  ·
    refine mw_iload_n C 1 d_Wl_whisper_4 rfl rfl ?_
    refine mw_iconst C (v := nI 2) d_Wl_whisper_5 (by decide) ?_
    refine mw_icmp_gt C 28 d_Wl_whisper_6 (by decide) (fun h6 => ?_) (fun h6 => ?_)
    ·
      exact mt_throw C (X := "java/lang/IllegalArgumentException") (is := 121) htr hE.2.2.2 hE.1 hE.2.1 hE.2.2.1 rfl (List.mem_of_getElem? (i := 7) rfl) wl_51 wn_IAE wz_IAE at_IAE (by decide +kernel) d_Wl_whisper_28 d_Wl_whisper_31 d_Wl_whisper_32 d_Wl_whisper_34 d_Wl_whisper_37 (by decide) (by decide) (by decide) (by decide)
    ·
      refine mw_aload_n C 0 d_Wl_whisper_9 rfl rfl ?_
      refine mw_iload_n C 2 d_Wl_whisper_10 rfl rfl ?_
      refine mw_run0i C ix_Wl_Wl (mw_invV C (kk := 0) (m_Wl_isActive l D cA x2 _) ix_Wl_Wl kb_Wl_45 wm_Wl_isActive wv_Wl_isActive (by decide) rfl rfl d_Wl_whisper_11 rfl rfl (Nat.le_of_ble_eq_true rfl) rfl rfl ⟨by decide, by decide⟩ ⟨Nat.zero_le _, Nat.zero_le _⟩) (fun x11 e11 => ?_)
      rcases e11 with ⟨rfl, hk1⟩ | ⟨rfl, hk1⟩
      ·
        refine mw_if_eqN C 28 d_Wl_whisper_14 (by decide) (by omega) (fun h14 => ?_) (fun h14 => ?_)
        · exact absurd h14 (by decide)
        ·
          refine mw_aload_n C 0 d_Wl_whisper_17 rfl rfl ?_
          refine mw_getr C f_Wl_30 d_Wl_whisper_18 (by decide) rfl rfl ?_
          refine mw_iload_n C 3 d_Wl_whisper_21 rfl rfl ?_
          refine mw_run0i C ix_Ve_Wl (mw_invV C (kk := 0) (m_Ve_has l D cA x3 _ nv hvl hv) ix_Ve_Wl kb_Wl_120 wm_Ve_has wv_Ve_has (by decide) rfl rfl d_Wl_whisper_22 rfl rfl (Nat.le_of_ble_eq_true rfl) rfl rfl ⟨by decide, by decide⟩ ⟨Nat.zero_le _, Nat.zero_le _⟩) (fun x22 e22 => ?_)
          rcases e22 with ⟨rfl, hk2⟩ | ⟨rfl, hk2⟩
          ·
            refine mw_if_neN C 38 d_Wl_whisper_25 (by decide) (by omega) (fun h25 => ?_) (fun h25 => ?_)
            · exact absurd ⟨wIn0_of (by decide) h1 (Int32.not_lt.mp h6), hk1, hk2⟩ h
            · exact absurd h25 (by decide)
          ·
            refine mw_if_neN C 38 d_Wl_whisper_25 (by decide) (by omega) (fun h25 => ?_) (fun h25 => ?_)
            · exact absurd h25 (by decide)
            ·
              exact mt_throw C (X := "java/lang/IllegalArgumentException") (is := 121) htr hE.2.2.2 hE.1 hE.2.1 hE.2.2.1 rfl (List.mem_of_getElem? (i := 7) rfl) wl_51 wn_IAE wz_IAE at_IAE (by decide +kernel) d_Wl_whisper_28 d_Wl_whisper_31 d_Wl_whisper_32 d_Wl_whisper_34 d_Wl_whisper_37 (by decide) (by decide) (by decide) (by decide)
      ·
        refine mw_if_eqN C 28 d_Wl_whisper_14 (by decide) (by omega) (fun h14 => ?_) (fun h14 => ?_)
        ·
          exact mt_throw C (X := "java/lang/IllegalArgumentException") (is := 121) htr hE.2.2.2 hE.1 hE.2.1 hE.2.2.1 rfl (List.mem_of_getElem? (i := 7) rfl) wl_51 wn_IAE wz_IAE at_IAE (by decide +kernel) d_Wl_whisper_28 d_Wl_whisper_31 d_Wl_whisper_32 d_Wl_whisper_34 d_Wl_whisper_37 (by decide) (by decide) (by decide) (by decide)
        · exact absurd h14 (by decide)
set_option maxHeartbeats 4000000 in
set_option maxRecDepth 100000 in
theorem mt_Wl_whisper_ISE (l : Launch) (htr : l.stackTraces = false) (D : va_G) (cA : Nat → ClassId) (bd : Nat) (x1 x2 x3 : Int32) (S : mw_S) (nv : Nat) (hv : S.1 2 4 = nI nv) (hvl : nv < 2 ^ 30) (h1 : wIn 0 2 x1) (h2 : wAct S x2) (h3 : wIn 1 nv x3) (h : S.1 0 0 = -1) : mt_M l lw_tbl y_Wl_whisper b_Wl_whisper 4 (some .int) { frames := 6, cells := 1, slots := 6, locals := 82 } D vCl cA sh_Wl 69 [.inr (.inr 0), .inl x1, .inl x2, .inl x3] (S) bd "java/lang/IllegalStateException" := by
  refine mt_M_of (by decide) (Nat.le_of_ble_eq_true rfl) ?_
  intro p e s m args below meth c A ad C hE
  obtain ⟨a, ha1, ha2, rfl⟩ := h1
  refine mw_iload_n C 1 d_Wl_whisper_0 rfl rfl ?_
  refine mw_if_ltN C 28 d_Wl_whisper_1 (by decide) (by omega) ?_
  refine mw_iload_n C 1 d_Wl_whisper_4 rfl rfl ?_
  refine mw_iconst C (v := nI 2) d_Wl_whisper_5 (by decide) ?_
  refine mw_icmp_gtN C 28 d_Wl_whisper_6 (by decide) (by omega) (by omega) (fun h6 => ?_) (fun h6 => ?_)
  · exfalso; omega
  ·
    refine mw_aload_n C 0 d_Wl_whisper_9 rfl rfl ?_
    refine mw_iload_n C 2 d_Wl_whisper_10 rfl rfl ?_
    refine mw_run0i C ix_Wl_Wl (mw_invV C (kk := 0) (m_Wl_isActive l D cA x2 _) ix_Wl_Wl kb_Wl_45 wm_Wl_isActive wv_Wl_isActive (by decide) rfl rfl d_Wl_whisper_11 rfl rfl (Nat.le_of_ble_eq_true rfl) rfl rfl ⟨by decide, by decide⟩ ⟨Nat.zero_le _, Nat.zero_le _⟩) (fun x11 e11 => ?_)
    rcases e11 with ⟨rfl, hk1⟩ | ⟨rfl, hk1⟩
    ·
      refine mw_if_eqN C 28 d_Wl_whisper_14 (by decide) (by omega) (fun h14 => ?_) (fun h14 => ?_)
      · exact absurd h14 (by decide)
      ·
        refine mw_aload_n C 0 d_Wl_whisper_17 rfl rfl ?_
        refine mw_getr C f_Wl_30 d_Wl_whisper_18 (by decide) rfl rfl ?_
        refine mw_iload_n C 3 d_Wl_whisper_21 rfl rfl ?_
        refine mw_run0i C ix_Ve_Wl (mw_invV C (kk := 0) (m_Ve_has l D cA x3 _ nv hvl hv) ix_Ve_Wl kb_Wl_120 wm_Ve_has wv_Ve_has (by decide) rfl rfl d_Wl_whisper_22 rfl rfl (Nat.le_of_ble_eq_true rfl) rfl rfl ⟨by decide, by decide⟩ ⟨Nat.zero_le _, Nat.zero_le _⟩) (fun x22 e22 => ?_)
        rcases e22 with ⟨rfl, hk2⟩ | ⟨rfl, hk2⟩
        ·
          refine mw_if_neN C 38 d_Wl_whisper_25 (by decide) (by omega) (fun h25 => ?_) (fun h25 => ?_)
          ·
            refine mw_aload_n C 0 d_Wl_whisper_38 rfl rfl ?_
            refine mw_geti C f_Wl_26 d_Wl_whisper_39 (by decide) rfl rfl ?_
            refine mw_iconst C (v := (-1)) d_Wl_whisper_42 (by decide) ?_
            refine mw_icmp_ne C 56 d_Wl_whisper_43 (by decide) (fun h43 => ?_) (fun h43 => ?_)
            · exact absurd h h43
            ·
              exact mt_throw C (X := "java/lang/IllegalStateException") (is := 123) htr hE.2.2.2 hE.1 hE.2.1 hE.2.2.1 rfl (List.mem_of_getElem? (i := 8) rfl) wl_70 wn_ISE wz_ISE at_ISE (by decide +kernel) d_Wl_whisper_46 d_Wl_whisper_49 d_Wl_whisper_50 d_Wl_whisper_52 d_Wl_whisper_55 (by decide) (by decide) (by decide) (by decide)
          · exact absurd h25 (by decide)
        · exact absurd h3 hk2
    · exact absurd h2 hk1
