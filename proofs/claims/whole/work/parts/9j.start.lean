/-! THE CLAIM OUT OF ONE WALK OF THE LAW'S BODY. Your part is whole_start (and what it stands on); all else here is the same for every law, but numbers. -/
def R_law : String := "WaveLedgerLaw"
def lw_P (b : Addr) (xs : List Int32) (args : Array Value) (s : State) : Prop := args = #[.ref b] ∧ s.IntsAt b xs ∧ xs.length ≤ 3075 ∧ (Jvm.Cond.and given_1 narrow_1).before args s = true
def lw_Q (_ : Array Value) (s : State) (o : Outcome) (t : State) : Prop := o = .returned (some (.int 1)) ∧ Framed s o t [] 601024 7293000
def lw_Z (below : List Frame) (a : Array Value) (s : State) : State → Prop := fun t => ∃ o, t.status = .running ∧ Ended t below o ∧ lw_Q a s o t
/-- the law's own end, with 1 on the stack, nothing written that was there before, its room as the claim has it -/
theorem lw_ret {p : Program} {l : Launch} {e : Env} {s : State} {m : MethodId} {below : List Frame} {meth : Method} {c : Code} {b : Nat} (hx : p.tables.exec = Jvm.exec) (hb : c.code = code) (hr : meth.sig.returnType = ret) (hlocks : meth.locks = false) {pc : Nat} {H : Heap} {ls : Array Slot} (hdg : decode code pc = .ok (.ireturn, 1)) : W p l e room_1 s m #[Value.ref b] below meth c H [] 601024 7293000 (lw_Z below #[Value.ref b] s) (F0 m pc ls [.int 1]) := by
  intro T hT X
  obtain ⟨fs, hret, hrun, hended, hW, hframe⟩ := X.leave (v := some (.int 1)) (hlocks := hlocks) (fun h => by rw [hr] at h; cases h)
  have hmeth' : T.vm.method? m = some meth := X.method'
  refine ⟨T.setFrames fs, ?_, .returned (some (.int 1)), hrun, hended, rfl, ⟨_, rfl⟩, hW, hframe⟩
  jvm_step X.here [X.here.top, hx, hb, hdg, hmeth', hr, ret, narrow_b1]
  (try refine ⟨rfl, ?_⟩); (try refine ⟨rfl, ?_⟩)
  first | (intro acts; rw [hret _ acts rfl rfl rfl]) | rw [hret _ _ rfl rfl rfl]
  exact Steps.refl _
/-- what holds at the law's entry: the machine, the code, the tables' words (any of lw_tbl by 'hts w (by decide +kernel)'), the script of L ints xs at the cell b, what the Statement gives of the start (any of its parts by flat_of_before) -/
def lw_At (p : Program) (s : State) (m : MethodId) (meth : Method) (c : Code) (b L : Nat) (xs : Nat → Int32) : Prop :=
  p.tables.exec = Jvm.exec ∧ c.code = code ∧ meth.sig.returnType = ret ∧ c.maxLocals = 7 ∧ s.vm.findClass R_law = some m.cls ∧ (∀ w ∈ lw_tbl, w.before #[Value.ref b] s = true) ∧ va_X b L xs s s.heap ∧ b < s.heap.size ∧ meth.locks = false ∧ (Jvm.Cond.and given_1 narrow_1).before #[Value.ref b] s = true
theorem lc_W {S0 S19 S42 : mw_S} (k : Nat) (hk : k < 69) : (mw_rs (mw_z (mw_mg (mw_z (mw_mg S0 [0, 1, 2, 3, 4, 5, 6, 7, 8, 9, 10, 11, 12, 13, 14, 15, 16, 17, 18, 19, 20, 21, 22, 23, 24, 25, 26, 27, 28, 29, 30, 31, 32, 33, 34, 35, 36, 37, 38, 39, 40, 41, 42, 43, 44, 45, 46, 47, 48, 49, 50, 51, 52, 53, 54, 55, 56, 57, 58, 59, 60, 61, 62, 63, 64, 65, 66, 67, 68] S19) 69) [69, 70, 71, 72, 73, 74, 75, 76, 77, 78, 79, 80, 81, 82, 83, 84, 85, 86, 87, 88, 89, 90] S42) 91) ixW).1 k = (mw_rs S19 ixW).1 k ∧ (mw_rs (mw_z (mw_mg (mw_z (mw_mg S0 [0, 1, 2, 3, 4, 5, 6, 7, 8, 9, 10, 11, 12, 13, 14, 15, 16, 17, 18, 19, 20, 21, 22, 23, 24, 25, 26, 27, 28, 29, 30, 31, 32, 33, 34, 35, 36, 37, 38, 39, 40, 41, 42, 43, 44, 45, 46, 47, 48, 49, 50, 51, 52, 53, 54, 55, 56, 57, 58, 59, 60, 61, 62, 63, 64, 65, 66, 67, 68] S19) 69) [69, 70, 71, 72, 73, 74, 75, 76, 77, 78, 79, 80, 81, 82, 83, 84, 85, 86, 87, 88, 89, 90] S42) 91) ixW).2 k = (mw_rs S19 ixW).2 k := by
  have h1 : ∀ k, k < 69 → mw_ixf ixW k < 69 ∧ mw_pos [69, 70, 71, 72, 73, 74, 75, 76, 77, 78, 79, 80, 81, 82, 83, 84, 85, 86, 87, 88, 89, 90] (mw_ixf ixW k) = none ∧ mw_pos [0, 1, 2, 3, 4, 5, 6, 7, 8, 9, 10, 11, 12, 13, 14, 15, 16, 17, 18, 19, 20, 21, 22, 23, 24, 25, 26, 27, 28, 29, 30, 31, 32, 33, 34, 35, 36, 37, 38, 39, 40, 41, 42, 43, 44, 45, 46, 47, 48, 49, 50, 51, 52, 53, 54, 55, 56, 57, 58, 59, 60, 61, 62, 63, 64, 65, 66, 67, 68] (mw_ixf ixW k) = some (mw_ixf ixW k) := by decide +kernel
  obtain ⟨a1, a2, a3⟩ := h1 k hk
  unfold mw_rs
  dsimp only
  generalize mw_ixf ixW k = q at a1 a2 a3
  have z1 := mw_z_o (S := mw_mg (mw_z (mw_mg S0 [0, 1, 2, 3, 4, 5, 6, 7, 8, 9, 10, 11, 12, 13, 14, 15, 16, 17, 18, 19, 20, 21, 22, 23, 24, 25, 26, 27, 28, 29, 30, 31, 32, 33, 34, 35, 36, 37, 38, 39, 40, 41, 42, 43, 44, 45, 46, 47, 48, 49, 50, 51, 52, 53, 54, 55, 56, 57, 58, 59, 60, 61, 62, 63, 64, 65, 66, 67, 68] S19) 69) [69, 70, 71, 72, 73, 74, 75, 76, 77, 78, 79, 80, 81, 82, 83, 84, 85, 86, 87, 88, 89, 90] S42) (n := 91) (k := q) (by omega)
  have z2 := mw_z_o (S := mw_mg S0 [0, 1, 2, 3, 4, 5, 6, 7, 8, 9, 10, 11, 12, 13, 14, 15, 16, 17, 18, 19, 20, 21, 22, 23, 24, 25, 26, 27, 28, 29, 30, 31, 32, 33, 34, 35, 36, 37, 38, 39, 40, 41, 42, 43, 44, 45, 46, 47, 48, 49, 50, 51, 52, 53, 54, 55, 56, 57, 58, 59, 60, 61, 62, 63, 64, 65, 66, 67, 68] S19) (n := 69) (k := q) a1
  rw [z1.1, z1.2]
  unfold mw_mg
  dsimp only
  rw [a2]
  dsimp only
  unfold mw_mg at z2
  rw [z2.1, z2.2]
  dsimp only
  rw [a3]
  exact ⟨rfl, rfl⟩
theorem lc_M {S0 S42 : mw_S} (k : Nat) (hk : k < 22) : (mw_rs (mw_z (mw_mg S0 [69, 70, 71, 72, 73, 74, 75, 76, 77, 78, 79, 80, 81, 82, 83, 84, 85, 86, 87, 88, 89, 90] S42) 91) ixM).1 k = S42.1 k ∧ (mw_rs (mw_z (mw_mg S0 [69, 70, 71, 72, 73, 74, 75, 76, 77, 78, 79, 80, 81, 82, 83, 84, 85, 86, 87, 88, 89, 90] S42) 91) ixM).2 k = S42.2 k := by
  have h1 : ∀ k, k < 22 → mw_ixf ixM k < 91 ∧ mw_pos [69, 70, 71, 72, 73, 74, 75, 76, 77, 78, 79, 80, 81, 82, 83, 84, 85, 86, 87, 88, 89, 90] (mw_ixf ixM k) = some k := by decide +kernel
  obtain ⟨a1, a2⟩ := h1 k hk
  unfold mw_rs
  dsimp only
  generalize mw_ixf ixM k = q at a1 a2
  have z1 := mw_z_o (S := mw_mg S0 [69, 70, 71, 72, 73, 74, 75, 76, 77, 78, 79, 80, 81, 82, 83, 84, 85, 86, 87, 88, 89, 90] S42) (n := 91) (k := q) a1
  rw [z1.1, z1.2]
  unfold mw_mg
  dsimp only
  rw [a2]
  exact ⟨rfl, rfl⟩
set_option maxHeartbeats 8000000 in
set_option maxRecDepth 100000 in
theorem whole_start {p : Program} {e : Env} {s : State} {m : MethodId} {below : List Frame} {meth : Method} {c : Code} (l : Launch) (htr : l.stackTraces = false) {b L : Nat} {xs : Nat → Int32} (hL : L ≤ 3075) (C0 : lw_At p s m meth c b L xs) : W p l e room_1 s m #[Value.ref b] below meth c s.heap [] 0 0 (lw_Z below #[Value.ref b] s) (entryFrame m ([Value.ref b] : List Value).toArray 7) := by
  obtain ⟨hx, hb, hr, hml, hown, hts, hX, hbl, hlocks, hgv⟩ := C0
  have hG : ∀ w ∈ mw_G lw_tbl, w.before #[Value.ref b] s = true := fun w hw => hts w (List.mem_filter.mp hw).1
  have hNn : ∀ w ∈ mw_N lw_tbl, va_Nw w s := fun w hw => va_Nw.of (mw_nk_tabs (List.mem_filter.mp hw).2) (hts w (List.mem_filter.mp hw).1)
  obtain ⟨k0, i0, q0⟩ := u_known hG wu_Bo (hG _ wz_Bo)
  obtain ⟨k1, i1, q1⟩ := u_known hG wu_Gr (hG _ wz_Gr)
  obtain ⟨k2, i2, q2⟩ := u_known hG wu_Ma (hG _ wz_Ma)
  obtain ⟨k3, i3, q3⟩ := u_known hG wu_No (hG _ wz_No)
  obtain ⟨k4, i4, q4⟩ := u_known hG wu_Tq (hG _ wz_Tq)
  obtain ⟨k5, i5, q5⟩ := u_known hG wu_Ve (hG _ wz_Ve)
  obtain ⟨k6, i6, q6⟩ := u_known hG wu_Vo (hG _ wz_Vo)
  obtain ⟨k7, i7, q7⟩ := u_known hG wu_Wl (hG _ wz_Wl)
  obtain ⟨k8, i8, q8⟩ := u_known hG wu_Mo (hG _ wz_Mo)
  obtain ⟨a0, ka0, co0, r01, r02, r03⟩ := Cond.arrayClass_spec (hG _ wa_int)
  obtain ⟨a1, ka1, co1, r11, r12, r13⟩ := Cond.arrayClass_spec (hG _ wa_long)
  obtain ⟨a2, ka2, co2, r21, r22, r23⟩ := Cond.arrayClass_spec (hG _ wa_boolean)
  have hao0 : (Cond.arrayOver (.object "WaveLedger$Node")).before #[Value.ref b] s = true := hts _ (List.mem_of_getElem? (i := 116) (by rfl))
  have hao : va_AO "WaveLedger$Node" s := va_AO.of hao0
  obtain ⟨co3, a3, ka3, r31, r32, r33, r34, r35⟩ := Cond.arrayOver_spec hao
  obtain ⟨D, hD⟩ : ∃ D : va_G, D = (fun c => [k0, k1, k2, k3, k4, k5, k6, k7, k8].getD c 0, fun c => [i0, i1, i2, i3, i4, i5, i6, i7, i8].getD c (fun _ => 0)) := ⟨_, rfl⟩
  obtain ⟨cA, hcA⟩ : ∃ cA : Nat → ClassId, cA = fun k => [a0, a1, a2, a3].getD k 0 := ⟨_, rfl⟩
  have hK : va_K D vCl (mw_T cA) s := by
    subst hD; subst hcA
    refine ⟨fun c q hq => ?_, fun k q hq => ?_⟩
    · match c, hq with
      | 0, hq => cases hq; exact q0
      | 1, hq => cases hq; exact q1
      | 2, hq => cases hq; exact q2
      | 3, hq => cases hq; exact q3
      | 4, hq => cases hq; exact q4
      | 5, hq => cases hq; exact q5
      | 6, hq => cases hq; exact q6
      | 7, hq => cases hq; exact q7
      | 8, hq => cases hq; exact q8
      | c + 9, hq => cases hq
    · match k, hq with
      | 0, hq => cases hq; exact ⟨fun n z => ⟨fun k h => (by cases h), ka0, r02, co0, r03⟩, r01⟩
      | 1, hq => cases hq; exact ⟨fun n z => ⟨fun k h => (by cases h), ka1, r12, co1, r13⟩, r11⟩
      | 2, hq => cases hq; exact ⟨fun n z => ⟨fun k h => (by cases h), ka2, r22, co2, r23⟩, r21⟩
      | 3, hq => cases hq; exact ⟨fun n z => ⟨fun k h => (by cases h), ka3, r33, co3, r34⟩, ka3, co3, r33, r34, r31, r35⟩
      | k + 4, hq => cases hq
  have hfl := flat_of_before _ hgv
  have hcast : (Cond.not (.castable nISE nIAE)).before #[Value.ref b] s = true := hfl _ (by decide +kernel)
  have hZ : mh_X s.heap.size s := by
    refine ⟨⟨mt_S.of (hts _ (by decide +kernel)) (hfl _ (by decide +kernel)), mt_S.of (hts _ (by decide +kernel)) (hfl _ (by decide +kernel)), fun q hq => ?_⟩, hcast⟩
    have hall : ∀ q ∈ mt_str, Cond.stringRef "WaveLedger" q.1 q.2 ∈ lw_tbl := by decide +kernel
    have h1 := hts _ (hall q hq)
    obtain ⟨cW, hW⟩ : ∃ cW, s.vm.findClass "WaveLedger" = some cW := by
      obtain ⟨c1, kC, hf, -⟩ := Cond.instantiable_spec (hG _ wz_Wl)
      exact ⟨c1, hf⟩
    obtain ⟨-, -, -, a', -, -, -, -, -, hev⟩ := Cond.stringRef_spec hW h1
    exact ⟨a', vk_R.of h1 hev⟩
  obtain ⟨A, hAe⟩ : ∃ A : Nat → Prop, A = fun q => s.heap.size ≤ q := ⟨_, rfl⟩
  have hA1 : ∀ q, s.heap.size ≤ q → A q := fun q h => by rw [hAe]; exact h
  have hA2 : ∀ q, A q → s.heap.size ≤ q := fun q h => by rw [hAe] at h; exact h
  have hbA : ¬ A b := fun h => absurd (hA2 b h) (Nat.not_le.mpr hbl)
  have hL31 : L < 2 ^ 31 := by omega
  obtain ⟨seed, hseed⟩ : ∃ z : Int32, z = if 0 < L then xs 0 else 0 := ⟨_, rfl⟩
  obtain ⟨cn, hcn⟩ : ∃ z : Int32, z = if 1 < L then xs 1 else 0 := ⟨_, rfl⟩
  obtain ⟨fv, hfv⟩ : ∃ z : Int32, z = if 2 < L then xs 2 else 0 := ⟨_, rfl⟩
  obtain ⟨fy, hfy⟩ : ∃ fy, fyR fv fy := by
    by_cases h : ∃ k, k < 4 ∧ fv = nI k
    · obtain ⟨k, h1, h2⟩ := h
      exact ⟨k, Or.inl ⟨h1, h2⟩⟩
    · exact ⟨4, Or.inr ⟨rfl, h⟩⟩
  have C : mw_C p m c s #[Value.ref b] code 7 "WaveLedgerLaw" (Cond.initialized "WaveLedgerLaw") lw_tbl D vCl cA A (fun _ => b) 0 true := ⟨⟨hx, hb, hml, hown, fun w hw => by
    rcases List.mem_cons.mp hw with rfl | h
    · exact hG _ wi_La
    · exact hG w h⟩, hNn, hK, hA1, fun i j hi => absurd hi (Nat.not_lt_zero _), fun _ k hk => absurd hk (Nat.not_lt_zero _)⟩
  have hl := lv_entry (([.inr (.inr 1000)] : List mw_V).map (mw_tv (fun _ => b))) (n := 7) (by rw [mw_words_len]; exact Nat.le_of_ble_eq_true rfl)
  rw [mw_args_map] at hl
  have hP0 : va_P D vCl (mw_W cA (fun _ => b) sh0 0 lc_S) s.heap := fun i q hq => absurd (mw_W_some hq).1 (Nat.not_lt_zero _)
  have hkb : (fun _ : Nat => b) 1000 = b := rfl
  generalize had0 : (fun _ : Nat => b) = ad0 at C hl hP0 hkb
  have start : mw p l e room_1 s m #[Value.ref b] below meth c (lw_Z below #[Value.ref b] s) 0 0 D vCl cA A ad0 sh0 0 7 0 [(0, .inr (.inr 1000))] [] lc_S := by
    refine mw_new C (ci := 7) [.inl 0, .inl 2, .inl 2, .inl 2, .inl 0, .inl 0, .inl 0] rfl t_Wl_ok wu_Wl wk_La_8 wz_Wl wi_Wl (by decide +kernel) rfl d_La_law_0 rfl rfl rfl (by decide) (by decide) (fun ad hy C => ?_)
    have hkb : ad 1000 = b := (hy 1000 rfl).trans hkb
    refine mw_dup C d_La_law_3 rfl ?_
    refine mw_aload_n C 0 d_La_law_4 rfl rfl ?_
    refine mw_iconst C (v := nI 0) d_La_law_5 (by decide) ?_
    refine mw_cell C (k := 0) hX hbl hbA hkb hL31 (by decide) kb_La_29 d_La_law_6 (Nat.le_of_ble_eq_true rfl) ⟨by decide, by decide⟩ ⟨by decide, by decide⟩ ?_
    rw [← hseed]
    refine mw_aload_n C 0 d_La_law_9 rfl rfl ?_
    refine mw_iconst C (v := nI 1) d_La_law_10 (by decide) ?_
    refine mw_cell C (k := 1) hX hbl hbA hkb hL31 (by decide) kb_La_29 d_La_law_11 (Nat.le_of_ble_eq_true rfl) ⟨by decide, by decide⟩ ⟨by decide, by decide⟩ ?_
    rw [← hcn]
    refine mw_aload_n C 0 d_La_law_14 rfl rfl ?_
    refine mw_iconst C (v := nI 2) d_La_law_15 (by decide) ?_
    refine mw_cell C (k := 2) hX hbl hbA hkb hL31 (by decide) kb_La_29 d_La_law_16 (Nat.le_of_ble_eq_true rfl) ⟨by decide, by decide⟩ ⟨by decide, by decide⟩ ?_
    rw [← hfv]
    refine mw_runI C (kk := 0) (ix := [0]) sh_Wf 69 [0, 1, 2, 3, 4, 5, 6, 7, 8, 9, 10, 11, 12, 13, 14, 15, 16, 17, 18, 19, 20, 21, 22, 23, 24, 25, 26, 27, 28, 29, 30, 31, 32, 33, 34, 35, 36, 37, 38, 39, 40, 41, 42, 43, 44, 45, 46, 47, 48, 49, 50, 51, 52, 53, 54, 55, 56, 57, 58, 59, 60, 61, 62, 63, 64, 65, 66, 67, 68] (m_Wl_init l D cA seed cn fv fy _ hfy rfl) (mw_ix_of (by decide +kernel)) (mw_ix_of (by decide +kernel)) (by decide +kernel) kb_La_35 wm_Wl_init rfl (fun U g mk a h => va_AO.moved (u := U) (U := U.calling g mk a) (Vm.Alike.refl U.vm) h) (fun _ _ _ U _ hW => va_AO.moved hW.alike hao) d_La_law_19 rfl rfl (Nat.le_of_ble_eq_true rfl) rfl rfl ⟨by decide, by decide⟩ ⟨by decide, by decide⟩ rfl rfl (fun ad hy C S19 e19 => ?_)
    have hkb : ad 1000 = b := (hy 1000 rfl).trans hkb
    refine mw_astore_n C 1 d_La_law_22 rfl (by decide) ?_
    refine mw_new C (ci := 8) [.inl 0, .inl 0, .inl 0, .inl 0, .inl 0, .inl 0, .inl 2, .inl 2, .inl 2, .inl 2, .inl 0, .inl 2, .inl 0, .inl 2, .inl 2, .inl 2, .inl 2, .inl 2, .inl 2, .inl 2, .inl 2, .inl 2, .inl 2, .inl 2, .inl 2, .inl 2, .inl 2, .inl 2, .inl 2] rfl t_Mo_ok wu_Mo wk_La_38 wz_Mo wi_Mo (by decide +kernel) rfl d_La_law_23 (by decide +kernel) rfl rfl (by decide) (by decide) (fun ad hy C => ?_)
    have hkb : ad 1000 = b := (hy 1000 rfl).trans hkb
    refine mw_dup C d_La_law_26 rfl ?_
    refine mw_aload_n C 0 d_La_law_27 rfl rfl ?_
    refine mw_iconst C (v := nI 0) d_La_law_28 (by decide) ?_
    refine mw_cell C (k := 0) hX hbl hbA hkb hL31 (by decide) kb_La_29 d_La_law_29 (Nat.le_of_ble_eq_true rfl) ⟨by decide, by decide⟩ ⟨by decide, by decide⟩ ?_
    rw [← hseed]
    refine mw_aload_n C 0 d_La_law_32 rfl rfl ?_
    refine mw_iconst C (v := nI 1) d_La_law_33 (by decide) ?_
    refine mw_cell C (k := 1) hX hbl hbA hkb hL31 (by decide) kb_La_29 d_La_law_34 (Nat.le_of_ble_eq_true rfl) ⟨by decide, by decide⟩ ⟨by decide, by decide⟩ ?_
    rw [← hcn]
    refine mw_aload_n C 0 d_La_law_37 rfl rfl ?_
    refine mw_iconst C (v := nI 2) d_La_law_38 (by decide) ?_
    refine mw_cell C (k := 2) hX hbl hbA hkb hL31 (by decide) kb_La_29 d_La_law_39 (Nat.le_of_ble_eq_true rfl) ⟨by decide, by decide⟩ ⟨by decide, by decide⟩ ?_
    rw [← hfv]
    refine mw_runI C (kk := 0) (ix := [69]) (fun k => if k < 91 then sh_La k else .inr (0, [])) 91 [69, 70, 71, 72, 73, 74, 75, 76, 77, 78, 79, 80, 81, 82, 83, 84, 85, 86, 87, 88, 89, 90] (m_Mo_init l D cA seed cn fv _ rfl) (mw_ix_of (by decide +kernel)) (mw_ix_of (by decide +kernel)) (by decide +kernel) kb_La_40 wm_Mo_init rfl (fun _ _ _ _ h => h) (fun _ _ _ _ _ _ => trivial) d_La_law_42 rfl rfl (Nat.le_of_ble_eq_true rfl) rfl rfl ⟨by decide, by decide⟩ ⟨by decide, by decide⟩ rfl rfl (fun ad hy C S42 e42 => ?_)
    have hkb : ad 1000 = b := (hy 1000 rfl).trans hkb
    refine mw_astore_n C 2 d_La_law_45 rfl (by decide) ?_
    refine mw_iconst C (v := nI 1) d_La_law_46 (by decide) ?_
    refine mw_newaL C wa_long (by decide) (by decide) d_La_law_47 (by decide +kernel) rfl rfl (by decide) (by decide) (fun ad hy C => ?_)
    have hkb : ad 1000 = b := (hy 1000 rfl).trans hkb
    refine mw_astore_n C 3 d_La_law_49 rfl (by decide) ?_
    refine mw_iconst C (v := nI 3) d_La_law_50 (by decide) ?_
    refine mw_istore C d_La_law_51 (by decide) ?_
    refine mw_shEq (sh' := sh_La) (by decide +kernel) ?_
    refine mw_to (lLV 0) (by exact And.intro rfl (And.intro rfl (And.intro rfl (And.intro rfl (And.intro rfl trivial))))) ?_
    refine mw_widen (k1 := 92) (n1 := 10569) (by decide) (by decide) ?_
    have hcR : cR cn fy (a_0 seed) (mw_rs (mw_z (mw_mg (mw_z (mw_mg (mw_z lc_S 0) [0, 1, 2, 3, 4, 5, 6, 7, 8, 9, 10, 11, 12, 13, 14, 15, 16, 17, 18, 19, 20, 21, 22, 23, 24, 25, 26, 27, 28, 29, 30, 31, 32, 33, 34, 35, 36, 37, 38, 39, 40, 41, 42, 43, 44, 45, 46, 47, 48, 49, 50, 51, 52, 53, 54, 55, 56, 57, 58, 59, 60, 61, 62, 63, 64, 65, 66, 67, 68] S19) 69) [69, 70, 71, 72, 73, 74, 75, 76, 77, 78, 79, 80, 81, 82, 83, 84, 85, 86, 87, 88, 89, 90] S42) 91) ixW) := cR_cells e19 (fun k hk => lc_W k hk)
    have hmR : mR cn fv (a_0 seed) (mw_rs (mw_z (mw_mg (mw_z (mw_mg (mw_z lc_S 0) [0, 1, 2, 3, 4, 5, 6, 7, 8, 9, 10, 11, 12, 13, 14, 15, 16, 17, 18, 19, 20, 21, 22, 23, 24, 25, 26, 27, 28, 29, 30, 31, 32, 33, 34, 35, 36, 37, 38, 39, 40, 41, 42, 43, 44, 45, 46, 47, 48, 49, 50, 51, 52, 53, 54, 55, 56, 57, 58, 59, 60, 61, 62, 63, 64, 65, 66, 67, 68] S19) 69) [69, 70, 71, 72, 73, 74, 75, 76, 77, 78, 79, 80, 81, 82, 83, 84, 85, 86, 87, 88, 89, 90] S42) 91) ixM) := mR_cells e42 (fun k hk => lc_M k hk)
    refine law_loop (cn := cn) (fv := fv) (fy := fy) htr C hX hbl hbA hkb hL hZ hA2 hfy (c0 := 92) (s0 := 10569) (by decide) (by decide) (fun t S ht => ?_) 513 0 rfl (a_0 seed) _ hcR hmR (aJ_0 fy seed)
    intro H locs ls hP hS hl
    refine va_forget (fun q hq => hA2 _ (hS.2.2 q hq)) ?_
    refine lv_iconst (v := 1) hx hb d_La_law_739 (by decide) ?_
    refine W.widen (k := 601024) (n := 7293000) (by omega) (by omega) ?_
    exact lw_ret hx hb hr hlocks d_La_law_740
  have e0 : entryFrame m ([Value.ref b] : List Value).toArray 7 = entryFrame m ((([.inr (.inr 1000)] : List mw_V).map (mw_tv ad0))).toArray 7 := by
    subst had0; rfl
  rw [e0, lg_entry_eq]
  exact start s.heap [] _ hP0 va_S.rf hl
set_option maxHeartbeats 4000000 in
theorem lw_walk (l : Launch) (htr : l.stackTraces = false) (b : Addr) (xs : List Int32) : MetFree l x (headSpec (Jvm.Cond.code x code maxLocals ret :: tables_1) room_1) (lw_P b xs) (fun _ _ _ _ _ => True) lw_Q := by
  refine MetFree.of_bodyS (code := code) (maxLocals := maxLocals) (ret := ret) (by decide) ?_ ?_
  · intro args s m h hn
    obtain ⟨meth, c, h1, h2, h3, h4, h5, h6, -, -⟩ := Cond.code_spec hn (atoms_spec (ws := Jvm.Cond.code x code maxLocals ret :: tables_1) h _ List.mem_cons_self)
    exact ⟨meth, c, h1, h2, h3, h4, h5, h6⟩
  · intro p e s m args below meth c s₁ B hml0 hP _
    obtain ⟨rfl, hx, hbd, hgv⟩ := hP
    obtain ⟨scr, harrAt, hlist, hof, hsmall⟩ := hx
    obtain ⟨hcb, hkn, -, -⟩ := State.arrayAt?_spec harrAt
    have hown : s.vm.findClass R_law = some m.cls := findClass_of_methodNamed B.named
    have hts0 : ∀ c ∈ (Jvm.Cond.code x code maxLocals ret :: tables_1), c.before #[Value.ref b] s = true := atoms_spec (ws := Jvm.Cond.code x code maxLocals ret :: tables_1) B.pre
    have hts : ∀ w ∈ lw_tbl, w.before #[Value.ref b] s = true := k2_hts_sels lw_privs (fun w hw => hts0 w (List.mem_cons_of_mem _ hw)) lw_privs_ok
    have hml : c.maxLocals = 7 := B.maxLocals_eq (hts0 _ List.mem_cons_self)
    have X₀ : Stand p l e room_1 s m #[Value.ref b] below meth c s₁ [] 0 0 := Stand.of_body B
    have hh0 : s₁.heap = s.heap := by rw [B.state]; rfl
    have hsz : scr.slots.size = xs.length := by rw [← Array.length_toList, hlist, List.length_map]
    have hval : ∀ j : Nat, j < xs.length → scr.slots[j]? = some (.int (xs.getD j 0)) := fun j hj => by
      rw [← Array.getElem?_toList, hlist]
      simp [hj]
    have hbl : b < s.heap.size := (Array.getElem?_eq_some_iff.mp hcb).1
    have hX : va_X b xs.length (fun j => xs.getD j 0) s s.heap := ⟨scr, hcb, hof, hkn, hsz, hval⟩
    have K : W p l e room_1 s m #[Value.ref b] below meth c s₁.heap [] 0 0 (lw_Z below #[Value.ref b] s) (entryFrame m ([Value.ref b] : List Value).toArray 7) := by
      rw [hh0]
      exact whole_start l htr hbd ⟨B.exec, B.bytes, B.returns, hml, hown, hts, hX, hbl, B.notSynchronized, hgv⟩
    obtain ⟨t, a1, o, b1, b2, b3⟩ := K s₁ rfl X₀
    exact ⟨t, o, a1, b1, b2, b3⟩
theorem lw_pre_spec {args : Array Value} {s : State} (h : (Jvm.Cond.and given_1 narrow_1).before args s = true) (hr : rest_1_c.before args s = true) : ∃ (b : Addr) (xs : List Int32), lw_P b xs args s := by
  have hs := flat_of_before _ h
  have hq := flat_of_before _ hr
  have hc : (Cond.count 1).before args s = true := hs _ (by decide +kernel)
  have harr : (Cond.arrayOf (.arg 0) .int).before args s = true := hs _ (by decide +kernel)
  have hle : (Cond.le (.length (.arg 0)) (.int 3075)).before args s = true := hs _ (by decide +kernel)
  have hlen : (Cond.isInt (.length (.arg 0))).before args s = true := hq _ (by decide +kernel)
  have hall : (Cond.all (.arg 0) (.isInt (.elem (.arg 0) (.index 0)))).before args s = true := hq _ (by decide +kernel)
  obtain ⟨b, xs, hb, hx⟩ := State.ints_of_pre rfl harr hlen hall
  have hsm : xs.length < 2 ^ 31 := hx.choose_spec.2.2.2
  have hev : (Term.length (.arg 0)).eval args s none [] s = some (.int xs.length.toInt32) := hx.length_eval hb
  have hv := Cond.le_ints hev (show (Term.int 3075).eval args s none [] s = some (.int 3075) from rfl)
  have hd : xs.length.toInt32 ≤ 3075 := by
    simpa [Cond.before, Cond.holds, hv] using hle
  have hN : xs.length ≤ 3075 := (Int32.ofNat_le_ofNat hsm (by decide)).mp (show Int32.ofNat xs.length ≤ Int32.ofNat 3075 from hd)
  exact ⟨b, xs, Cond.one_arg hc (show args[0]? = some (.ref b) from hb), hx, hN, h⟩
theorem lw_comes (l : Launch) (htr : l.stackTraces = false) : Comes l x (Jvm.Cond.code x code maxLocals ret :: tables_1) room_1 (fun tb e args s => Calls_1 tb e args s ∧ rest_1 tb e args s ∧ Pre_1 tb e args s)
    (fun _ _ args s o t => lw_Q args s o t) := by
  intro p e ha hc hk s m args below hf hfit hheap happ hpre
  obtain ⟨b, xs, hP⟩ := lw_pre_spec hpre.2.2 hpre.2.1
  obtain ⟨k, o, h1, h2, h3, hQ⟩ := lw_walk l htr b xs p e ha hc hk s m args below hf ((Spec.applies_iff_loose hf).mp happ).1 hP trivial
  exact ⟨k, o, h1, h2, h3, hQ⟩
theorem lw_frame {s t : State} {o : Outcome} {args : Array Value} (h : Framed s o t [] 601024 7293000) :
    Framed s o t (fieldLocs frame_1_writes args s ++ arrayLocs frame_1_arrays args s ++ staticLocs frame_1_statics s) 601024 7293000 := h
theorem lw_limb (L : Cond) (hL : ∀ (args : Array Value) (s t : State), L.after args s (.returned (some (.int 1))) t = true) :
    ArmFor flags0 classFile x code maxLocals ret World_1 tables_1 room_1 Calls_1 rest_1 Pre_1
      (fun tb e a s o t => postC L tb e a s o t ∧ Framed s o t (fieldLocs frame_1_writes a s ++ arrayLocs frame_1_arrays a s ++ staticLocs frame_1_statics s) 601024 7293000) := by
  intro l hl1 hl2 hl3 p e ha hc hk s m args below hf hfit hheap happ hpre
  obtain ⟨k, o, h1, h2, h3, rfl, hF⟩ := lw_comes l (by unfold Launch.stackTraces; rw [hl1]; decide +kernel) p e ha hc hk s m args below hf hfit hheap happ hpre
  exact ⟨k, _, h1, h2, h3, hL args s _, lw_frame hF⟩
theorem i_vc : Claimed_1_1 ∧ Claimed_1_2 := ⟨lw_limb limb_1_1 (fun args s t => by simp [limb_1_1, Cond.after, Cond.holds, Cond.value]), lw_limb limb_1_2 (fun args s t => Cond.after_iff.mpr (by
  first | (rw [show limb_1_2 = Cond.eq .result (.int 1) from rfl, Cond.eq_ints (x := 1) (y := 1) rfl rfl]; simp; done) | (simp [limb_1_2, Cond.value, Term.eval]; done)))⟩
