/-! THE LAW'S ROWS: the script, cell, helpers that catch -/
section LWR
variable {p : Program} {l : Launch} {e : Env} {R : Room} {s : State} {m : MethodId} {args : Array Value} {below : List Frame} {meth : Method} {c : Code} {Q : State → Prop} {cells slots : Nat}
variable {cc : ByteArray} {nL : Nat} {own : String} {b0 : Cond} {tb : List Cond} {D : va_G} {cl : List vw_C} {cA : Nat → ClassId} {A : Nat → Prop} {ad : Nat → Nat} {sh : Nat → mw_H} {n : Nat} {w : Bool}
variable {pc : Nat} {lv : List (Nat × mw_V)} {st : List mw_V} {S : mw_S}
theorem mw_sld (C : mw_C p m c s args cc nL own b0 tb D cl cA A ad n w) {b L kb j : Nat} {xs : Nat → Int32} (hX : va_X b L xs s s.heap) (hbl : b < s.heap.size) (hbA : ¬ A b) (hkb : ad kb = b) (hj : j < L) (hL : L < 2 ^ 31) (hd : decode cc pc = .ok (.iaload, 1)) (k : mw p l e R s m args below meth c Q cells slots D cl cA A ad sh n nL (pc + 1) (lv) (.inl (xs j) :: st) (S)) : mw p l e R s m args below meth c Q cells slots D cl cA A ad sh n nL (pc) (lv) (.inl (nI j) :: .inr (.inr kb) :: st) (S) := fun H locs ls hP hS hl => by
  have h1 := k H locs ls hP hS hl
  have h2 := va_sld (i := nI j) (rest := st.map (mw_tv ad)) C.1.1 C.1.2.1 hX hbl hbA hS (vp_in_nI hj hL) hd (by rw [nI_clamp (Nat.lt_trans hj hL)]; exact h1)
  show W p l e R s m args below meth c H locs cells slots Q (F0 m pc ls (.int (nI j) :: .ref (ad kb) :: st.map (mw_tv ad)))
  rw [hkb]
  exact h2
theorem mw_slen (C : mw_C p m c s args cc nL own b0 tb D cl cA A ad n w) {b L kb : Nat} {xs : Nat → Int32} (hX : va_X b L xs s s.heap) (hbl : b < s.heap.size) (hbA : ¬ A b) (hkb : ad kb = b) (hd : decode cc pc = .ok (.arraylength, 1)) (k : mw p l e R s m args below meth c Q cells slots D cl cA A ad sh n nL (pc + 1) (lv) (.inl (nI L) :: st) (S)) : mw p l e R s m args below meth c Q cells slots D cl cA A ad sh n nL (pc) (lv) (.inr (.inr kb) :: st) (S) := fun H locs ls hP hS hl => by
  have h1 := k H locs ls hP hS hl
  have h2 := va_slen (rest := st.map (mw_tv ad)) C.1.1 C.1.2.1 hX hbl hbA hS hd h1
  show W p l e R s m args below meth c H locs cells slots Q (F0 m pc ls (.ref (ad kb) :: st.map (mw_tv ad)))
  rw [hkb]
  exact h2
/-- a call of a static method that has a table of handlers -/
theorem mh_runSW {y : MethodName} {bytes : ByteArray} {maxL mc ms np index : Nat} {ret : Option FieldType} {hh : List (Nat × Nat × Nat × Nat)} {ws : List Cond} {rm : Room} {Pc : Array Value → State → Prop} {Qc : Array Value → State → Outcome → State → Prop} {free : Addr → Prop} {Ts : List Cond} {As rest : List Value} {g : JFrame} {H : Heap} {locs : List Loc}
    (S : CallFix p m c cc nL s args Ts own) (hM : Met l y ws rm Pc Qc mc ms free) (hrc : rm.cells = mc) (hrs : rm.slots = ms) (hR : rm.frames + 1 ≤ R.frames ∧ 8 + (maxL + 11) + rm.locals ≤ R.locals) (hws : ∀ w ∈ ws, ∀ (a' : Array Value) (U : State), s.WarmedH U.vm → w.before a' U = true) (hcm : Cond.codeWith y bytes maxL ret hh ∈ ws) (hini : ∀ (a' : Array Value) (U : State), s.WarmedH U.vm → (Cond.initialized y.cls).before a' U = true)
    (hini0 : (Cond.initialized y.cls).before args s = true) (hcode : (Cond.codeWith y bytes maxL ret hh).before args s = true) (hl : (Cond.methodLink own index y).before args s = true) (hstt : (Cond.static y).before args s = true) (hy : y.cls ≠ "java/lang/invoke/MethodHandle" ∧ y.cls ≠ "java/lang/invoke/VarHandle" ∧ (parseMethodDescriptor y.desc).map (fun d => d.parameters.length) = some np) (hp : PreS s H Pc As)
    (hg : g.method = m) (hn : As.length = np) (hsize : g.locals.size = nL) (hstack : g.stack = As.reverse ++ rest) (hW : 2 * g.monitorRoom + (rest.map fun v => v.category).sum ≤ 8) (hdg : decode cc g.pc = .ok (.invokestatic index, 3)) (hf : cells + mc ≤ R.cells ∧ slots + ms ≤ R.slots) :
    va_Run p l e R s m args below meth c H locs cells slots mc ms g rest (Qc As.toArray) (free) := by
  have hK : Back l R p e below s args y 3 8 (PreOf R mc ms Pc) (PostOf Qc mc ms free) := va_backW (hh := hh) (bytes := bytes) (maxL := maxL) (ret := ret) hM hp.1 hrc hrs hR.1 hR.2 hws hcm hini
  obtain ⟨hx, hb, hml, ho, -⟩ := S
  subst hg
  intro T hT X
  obtain ⟨mk, methM, cM, hnamed, hmethM, -, -, -, -, -, -, hsigM⟩ := Cond.codeWith_spec hcode
  have hstatic : methM.isStatic = true := Cond.static_spec hnamed hmethM hstt
  obtain ⟨kP, hkP, -⟩ := className_of_methodNamed hnamed
  have hinitP : kP.init = .initialized := Cond.initialized_spec (findClass_of_methodNamed hnamed) hkP hini0
  have hnp : As.length = methM.sig.parameters.length := by
    have h2 := hy.2.2
    rw [hsigM] at h2
    rw [hn]
    exact (Option.some.inj h2).symm
  obtain ⟨vm₁, X₁, hstep₁⟩ := X.invokestatic hx ho hl hnamed hmethM hstatic hkP hinitP ⟨hy.1, hy.2.1⟩ (g := g) rfl (argsL := As) (rest := rest) hnp hstack (by rw [hb]; exact hdg)
  obtain ⟨v, ⟨U', l2, c2, s2⟩, X', ⟨g', mk', t, L, e1, e2, hq, h1, hL, h2, h3⟩, hsteps⟩ := hK g.method meth c ⟨T.setVm vm₁, locs, cells, slots⟩ { g with stack := rest } (.invokestatic index) mk As.toArray X₁ rfl (hsize.trans hml.symm) (by rw [hb]; exact hdg) hW (X₁.named hnamed) ⟨hf.1, hf.2, hp.2 (T.setVm vm₁) hT X₁.warmed⟩
  dsimp only [Pt.U, Pt.locs, Pt.cells, Pt.slots] at X' e1 e2 h1 h2 h3 hsteps
  subst h1; subst h2; subst h3
  exact ⟨v, (T.setVm vm₁).calling g' mk' As.toArray, t, U', L, hT, X', hL, e1, e2, hq, fun target h => hstep₁ _ fun acts => by rw [doInvoke_state]; exact hsteps.trans h⟩
end LWR
theorem mh_no {s U : State} {X Y : String} (hW : s.WarmedH U.vm) (h : (Cond.not (.castable X Y)).before #[] s = true) : (Cond.not (.castable X Y)).before #[] U = true := by
  have hv := Cond.holds_not_iff.mp h
  refine Cond.holds_not_iff.mpr ?_
  simp only [Cond.value] at hv ⊢
  simp only [hW.alike.findClass, hW.alike.assignable]
  exact hv
section LWH
variable {p : Program} {l : Launch} {e : Env} {R : Room} {s : State} {m : MethodId} {args : Array Value} {below : List Frame} {meth : Method} {c : Code} {Q : State → Prop} {cells slots : Nat}
variable {cc : ByteArray} {nL : Nat} {own : String} {b0 : Cond} {tb : List Cond} {D : va_G} {cl : List vw_C} {cA : Nat → ClassId} {A : Nat → Prop} {ad : Nat → Nat} {sh : Nat → mw_H} {n : Nat} {w : Bool}
variable {pc : Nat} {lv : List (Nat × mw_V)} {st : List mw_V} {S : mw_S}
theorem mh_callS (C : mw_C p m c s args cc nL own b0 tb D cl cA A ad n true) {index : Nat} {y : MethodName} {bytes : ByteArray} {maxL np bd : Nat} {ret : Option FieldType} {hh : List (Nat × Nat × Nat × Nat)} {rm : Room} {sh' : Nat → mw_H} {n' : Nat} {ix : List Nat} {as rest : List mw_V} {post : Int32 → mw_S → Prop}
    (hM : mh_M l tb y bytes maxL ret hh rm D cl cA sh' n' as (mw_rs S ix) bd (mw_Pi post)) (hx : mw_ix sh' n' sh n ix) (hcw : Cond.codeWith y bytes maxL ret hh ∈ mw_G tb) (hci : Cond.initialized y.cls ∈ mw_G tb) (hcn : y.cls ≠ "java/lang/invoke/MethodHandle" ∧ y.cls ≠ "java/lang/invoke/VarHandle" ∧ (parseMethodDescriptor y.desc).map (fun d => d.parameters.length) = some np) (hlk : Cond.methodLink own index y ∈ mw_G tb) (hst : Cond.static y ∈ mw_G tb) (hd : decode cc pc = .ok (.invokestatic index, 3)) (hn : as.length = np) (hs : (as.map (mw_rv ix)).reverse ++ rest = st) (hrest : mw_words rest ≤ 8)
    (hrc : rm.cells = 1) (hrs : rm.slots = 6) (hR : rm.frames + 1 ≤ R.frames ∧ 8 + (maxL + 11) + rm.locals ≤ R.locals) (hc : cells + 1 ≤ R.cells ∧ slots + 6 ≤ R.slots) (hZ : mh_X bd s) (hbs : bd ≤ s.heap.size) (hbA : ∀ q, A q → bd ≤ q)
    (k : ∀ (x : Int32) (S1 : mw_S), post x S1 → mw p l e R s m args below meth c Q (cells + 1) (slots + 6) D cl cA A ad sh n nL (pc + 3) (lv) (.inl x :: rest) (mw_mg S ix S1)) : mw p l e R s m args below meth c Q cells slots D cl cA A ad sh n nL (pc) (lv) (st) (S) := by
  subst hs
  intro H locs ls hP hS hl T hT X
  have ht := C.1.2.2.2.2
  have hmem : ∀ w, w ∈ mw_G tb → w.before args s = true := fun w h => ht w (List.mem_cons_of_mem _ h)
  have hB : mh_B bd (fun k => ad (mw_ixf ix k)) n' H.size := ⟨Nat.le_trans hbs hS.1, fun k hk => hbA _ (C.2.2.2.2.2 rfl _ (hx.2 k hk).1)⟩
  have hold : ∀ q, q < bd → H[q]? = s.heap[q]? := fun q hq => hS.2.1 q (Nat.lt_of_lt_of_le hq hbs) (fun h => absurd (hbA q h) (Nat.not_le.mpr hq))
  have hbl : FrameBlind (fun v U => mw_Pc D cl cA tb (fun k => ad (mw_ixf ix k)) sh' n' H.size as (mw_rs S ix) v U ∧ mh_X bd U) := fun a U g mk q => ⟨mw_blind a U g mk q.1, mt_X.same (u := U) (U := U.calling g mk a) rfl rfl q.2.1, q.2.2⟩
  have hpre : ∀ U : State, U.heap = H → s.WarmedH U.vm → (mw_Pc D cl cA tb (fun k => ad (mw_ixf ix k)) sh' n' H.size as (mw_rs S ix) ((as.map (mw_tv (fun k => ad (mw_ixf ix k)))).toArray) U ∧ mh_X bd U) := fun U hU hW => ⟨mw_pre C hx hP U hU hW, hZ.1.warm hW (fun q hq => by rw [hU]; exact hold q hq), mh_no hW hZ.2⟩
  have hrun := mh_runSW (Ts := b0 :: mw_G tb) (As := as.map (mw_tv (fun k => ad (mw_ixf ix k)))) (rest := rest.map (mw_tv ad)) (g := F0 m pc ls (((as.map (mw_rv ix)).reverse ++ rest).map (mw_tv ad))) (below := below) (e := e) (meth := meth) (H := H) (locs := locs) (cells := cells) (slots := slots) (R := R) C.1 (hM (fun k => ad (mw_ixf ix k)) H.size hB) hrc hrs hR (pay_in ht (mw_good hcw)) List.mem_cons_self (fun a' U' hW' => word_at hW' (good_of_word (List.mem_filter.mp hci).2) (hmem _ hci)) (hmem _ hci) (hmem _ hcw) (hmem _ hlk) (hmem _ hst) hcn ⟨hbl, hpre⟩ rfl (by rw [List.length_map]; exact hn) hl.1 (mw_asr ix as rest) (lv_room (mw_sum_le hrest)) hd hc
  obtain ⟨v, st₀, t, T', L, h0, X', hL, e1, e2, ⟨⟨r, S1, hv, ⟨x, rfl, hpost⟩, hP1⟩, hF⟩, hgo⟩ := hrun T hT X
  have hA1 : ∀ q, mw_fr true (mw_W cA (fun k => ad (mw_ixf ix k)) sh' n' (mw_rs S ix)) H.size q → A q := by
    intro q hq
    rcases hq with ⟨hw1, k, z, hz⟩ | hq
    · obtain ⟨hk, hz⟩ := mw_W_some hz
      have e9 : q = ad (mw_ixf ix k) := congrArg Prod.fst hz
      rw [e9]
      exact C.2.2.2.2.2 rfl _ (hx.2 k hk).1
    · exact C.2.2.2.1 q (Nat.le_trans hS.1 hq)
  have hF1 : ∀ q, q < H.size → ¬ mw_fr true (mw_W cA (fun k => ad (mw_ixf ix k)) sh' n' (mw_rs S ix)) H.size q → T'.heap[q]? = H[q]? := fun q h1 h2 => by
    rw [e1, ← h0]
    exact hF.2 q (by rw [h0]; exact h1) h2
  have hsz : H.size ≤ T'.heap.size := by rw [e1, ← h0]; exact hF.1
  have hP2 : va_P D cl (mw_W cA ad sh n (mw_mg S ix S1)) T'.heap := by
    intro i q hq
    obtain ⟨hi, rfl⟩ := mw_W_some hq
    cases hp : mw_pos ix i with
    | some k =>
      obtain ⟨hk, hik⟩ := mw_pos_lt hp
      rw [hx.1] at hk
      obtain ⟨-, h2, -⟩ := hx.2 k hk
      have h3 := hP1 k _ (mw_W_get hk)
      have e8 : mw_e cA (fun k => ad (mw_ixf ix k)) S1 k (sh' k) = mw_e cA ad (mw_mg S ix S1) i (sh i) := by
        have e7 : mw_e cA (fun k => ad (mw_ixf ix k)) S1 k (sh' k) = mw_e cA (fun k => ad (mw_ixf ix k)) (mw_rs (mw_mg S ix S1) ix) k (sh' k) := by
          refine mw_e_congr ?_ ?_ _
          · show S1.1 k = (mw_mg S ix S1).1 (mw_ixf ix k)
            simp only [mw_mg, hik, hp]
          · show S1.2 k = (mw_mg S ix S1).2 (mw_ixf ix k)
            simp only [mw_mg, hik, hp]
        rw [e7, mw_okc_e h2, hik]
      rw [e8] at h3
      have h4 : va_at D cl (ad i, mw_e cA ad (mw_mg S ix S1) i (sh i)) t.heap := by
        have e6 : ad (mw_ixf ix k) = ad i := by rw [hik]
        rw [← e6]; exact h3
      rw [e1]
      exact h4
    | none =>
      have h3 := hP i _ (mw_W_get hi)
      have e8 : mw_e cA ad (mw_mg S ix S1) i (sh i) = mw_e cA ad S i (sh i) := by
        refine mw_e_congr ?_ ?_ _
        · simp only [mw_mg, hp]
        · simp only [mw_mg, hp]
      rw [e8]
      refine h3.kept (hF1 _ h3.lt ?_)
      rintro (⟨-, k, z, hz⟩ | hq)
      · obtain ⟨hk, hz⟩ := mw_W_some hz
        have e9 : ad i = ad (mw_ixf ix k) := congrArg Prod.fst hz
        have e10 := C.2.2.2.2.1 _ _ hi (hx.2 k hk).1 e9
        rw [e10, (hx.2 k hk).2.2] at hp
        cases hp
      · exact absurd h3.lt (Nat.not_lt.mpr hq)
  have hS2 : va_S A s.heap T'.heap (locs ++ L) := by
    refine ⟨Nat.le_trans hS.1 hsz, fun q h1 h2 => ?_, fun q hq => ?_⟩
    · rw [hF1 q (Nat.lt_of_lt_of_le h1 hS.1) (fun h => h2 (hA1 q h))]
      exact hS.2.1 q h1 h2
    · rcases List.mem_append.mp hq with hq | hq
      · exact hS.2.2 q hq
      · exact hA1 _ (hL q hq)
  obtain ⟨t2, a1, b1⟩ := k x S1 hpost T'.heap (locs ++ L) ls hP2 hS2 hl T' rfl X'
  refine ⟨t2, hgo t2 ?_, b1⟩
  have ev : v = some (.int x) := by injection hv
  subst ev
  exact a1
/-- the law's 'cell' -/
def lc_S : mw_S := (fun _ _ => 0, fun _ _ => 0)
end LWH
set_option maxHeartbeats 4000000 in
theorem m_La_cell (l : Launch) (D : va_G) (cA : Nat → ClassId) (b L k sz : Nat) (xs : Nat → Int32) (hL : L < 2 ^ 31) (hk : k < 2 ^ 31) : Met l y_La_cell (Cond.code y_La_cell b_La_cell 2 (some .int) :: mw_G lw_tbl) { frames := 0, cells := 0, slots := 0, locals := 0 } (fun v U => mw_Pc D vCl cA lw_tbl (fun _ => b) sh0 0 sz [.inr (.inr 0), .inl (nI k)] lc_S v U ∧ (va_X b L xs U U.heap ∧ b < U.heap.size)) (mw_Qc false D vCl cA (fun _ => b) sh0 0 sz lc_S (mw_Pi (fun x _ => x = if k < L then xs k else 0))) 0 0 (mw_fr false (mw_W cA (fun _ => b) sh0 0 lc_S) sz) := by
  refine Met.ofW (cc := b_La_cell) (maxL := 2) (ret := some .int) (by decide) rfl ?_
  intro p e s m args below meth c s₁ B hml hv
  obtain ⟨⟨rfl, hsz, hP, hK, hN, hi⟩, hX, hbl⟩ := hv
  subst hsz
  have hts := atoms_spec (ws := Cond.code y_La_cell b_La_cell 2 (some .int) :: mw_G lw_tbl) B.pre
  have hown : s.vm.findClass "WaveLedgerLaw" = some m.cls := findClass_of_methodNamed B.named
  have hl := lv_entry (([.inr (.inr 0), .inl (nI k)] : List mw_V).map (mw_tv (fun _ => b))) (n := 2) (by rw [mw_words_len]; exact Nat.le_of_ble_eq_true rfl)
  rw [mw_args_map] at hl
  rw [lg_entry_eq]
  generalize hAe : mw_fr false (mw_W cA (fun _ => b) sh0 0 lc_S) s.heap.size = A
  have hbA : ¬ A b := by
    rw [← hAe]
    rintro (⟨h, -⟩ | h)
    · cases h
    · exact absurd hbl (Nat.not_lt.mpr h)
  have hR : meth.sig.returnType = some .int ∧ meth.locks = false ∧ A = mw_fr false (mw_W cA (fun _ => b) sh0 0 lc_S) s.heap.size := ⟨B.returns, B.notSynchronized, hAe.symm⟩
  generalize hae : (([.inr (.inr 0), .inl (nI k)] : List mw_V).map (mw_tv (fun _ => b))).toArray = args at hts ⊢
  have C : mw_C p m c s args b_La_cell 2 "WaveLedgerLaw" (Cond.code y_La_cell b_La_cell 2 (some .int)) lw_tbl D vCl cA A (fun _ => b) 0 false := ⟨⟨B.exec, B.bytes, hml, hown, hts⟩, hN, hK, fun q h => by rw [← hAe]; exact Or.inr h, hi, fun hw => by cases hw⟩
  have body : mw p l e { frames := 0, cells := 0, slots := 0, locals := 0 } s m args below meth c (MQ below (mw_Qc false D vCl cA (fun _ => b) sh0 0 s.heap.size lc_S (mw_Pi (fun x _ => x = if k < L then xs k else 0))) args s 0 0 A) 0 0 D vCl cA A (fun _ => b) sh0 0 2 0 [(0, .inr (.inr 0)), (1, .inl (nI k))] [] lc_S := by
    refine mw_iload_n C 1 d_La_cell_0 rfl rfl ?_
    refine mw_aload_n C 0 d_La_cell_1 rfl rfl ?_
    refine mw_slen C hX hbl hbA rfl d_La_cell_2 ?_
    refine mw_icmp_geN C 12 d_La_cell_3 (by decide) hk hL (fun h3 => ?_) (fun h3 => ?_)
    · refine mw_iconst C (v := nI 0) d_La_cell_12 (by decide) ?_
      refine mw_iret C hR d_La_cell_13 ?_
      rw [if_neg (by omega)]
      rfl
    · refine mw_aload_n C 0 d_La_cell_6 rfl rfl ?_
      refine mw_iload_n C 1 d_La_cell_7 rfl rfl ?_
      refine mw_sld C hX hbl hbA rfl (by omega) hL d_La_cell_8 ?_
      refine mw_goto C 13 d_La_cell_9 (by decide) ?_
      refine mw_iret C hR d_La_cell_13 ?_
      rw [if_pos (by omega)]
  exact body s.heap [] _ hP va_S.rf hl
section LWC
variable {p : Program} {l : Launch} {e : Env} {R : Room} {s : State} {m : MethodId} {args : Array Value} {below : List Frame} {meth : Method} {c : Code} {Q : State → Prop} {cells slots : Nat}
variable {cc : ByteArray} {nL : Nat} {own : String} {b0 : Cond} {D : va_G} {cA : Nat → ClassId} {A : Nat → Prop} {ad : Nat → Nat} {sh : Nat → mw_H} {n : Nat} {w : Bool}
variable {pc : Nat} {lv : List (Nat × mw_V)} {st : List mw_V} {S : mw_S}
theorem mw_cell (C : mw_C p m c s args cc nL own b0 lw_tbl D vCl cA A ad n w) {b L k kb index : Nat} {xs : Nat → Int32} (hX : va_X b L xs s s.heap) (hbl : b < s.heap.size) (hbA : ¬ A b) (hkb : ad kb = b) (hL : L < 2 ^ 31) (hk : k < 2 ^ 31) (hKB : mw_KB lw_tbl own index y_La_cell b_La_cell 2 (some .int) 2) (hd : decode cc pc = .ok (.invokestatic index, 3)) (hrest : mw_words st ≤ 8) (hR : 1 ≤ R.frames ∧ 21 ≤ R.locals) (hc : cells ≤ R.cells ∧ slots ≤ R.slots) (kk : mw p l e R s m args below meth c Q cells slots D vCl cA A ad sh n nL (pc + 3) lv (.inl (if k < L then xs k else 0) :: st) S) : mw p l e R s m args below meth c Q cells slots D vCl cA A ad sh n nL pc lv (.inl (nI k) :: .inr (.inr kb) :: st) S := by
  intro H locs ls hP hS hl T hT X
  obtain ⟨k1, k2, k3, k4⟩ := hKB
  have ht := C.1.2.2.2.2
  have hmem : ∀ w, w ∈ mw_G lw_tbl → w.before args s = true := fun w h => ht w (List.mem_cons_of_mem _ h)
  have hXH : va_X b L xs s H := hX.kept (hS.2.1 b hbl hbA)
  have hblH : b < H.size := Nat.lt_of_lt_of_le hbl hS.1
  have hbl0 : FrameBlind (fun v U => mw_Pc D vCl cA lw_tbl (fun _ => b) sh0 0 H.size [.inr (.inr 0), .inl (nI k)] lc_S v U ∧ (va_X b L xs U U.heap ∧ b < U.heap.size)) := fun a U g mk q => ⟨mw_blind a U g mk q.1, va_X.moved (u := U) (U := U.calling g mk a) (Vm.Alike.refl U.vm) q.2.1, q.2.2⟩
  have hpre : ∀ U : State, U.heap = H → s.WarmedH U.vm → (mw_Pc D vCl cA lw_tbl (fun _ => b) sh0 0 H.size [.inr (.inr 0), .inl (nI k)] lc_S ([.ref b, .int (nI k)] : List Value).toArray U ∧ (va_X b L xs U U.heap ∧ b < U.heap.size)) := fun U hU hW => ⟨⟨rfl, by rw [hU], fun i q hq => absurd (mw_W_some hq).1 (Nat.not_lt_zero _), va_K.moved hW.alike C.2.2.1, fun w hw => mw_nk_warm (List.mem_filter.mp hw).2 hW (C.2.1 w hw), fun i j hi => absurd hi (Nat.not_lt_zero _)⟩, by rw [hU]; exact va_X.moved hW.alike hXH, by rw [hU]; exact hblH⟩
  have hstk : (F0 m pc ls ((.inl (nI k) :: .inr (.inr kb) :: st : List mw_V).map (mw_tv ad))).stack = ([.ref b, .int (nI k)] : List Value).reverse ++ st.map (mw_tv ad) := by
    show (.int (nI k) :: .ref (ad kb) :: st.map (mw_tv ad) : List Value) = _
    rw [hkb]
    rfl
  have hrun : va_Run p l e R s m args below meth c H locs cells slots 0 0 (F0 m pc ls ((.inl (nI k) :: .inr (.inr kb) :: st : List mw_V).map (mw_tv ad))) (st.map (mw_tv ad)) (mw_Qc false D vCl cA (fun _ => b) sh0 0 H.size lc_S (mw_Pi (fun x _ => x = if k < L then xs k else 0)) ([.ref b, .int (nI k)] : List Value).toArray) (mw_fr false (mw_W cA (fun _ => b) sh0 0 lc_S) H.size) := by
    rcases k4 with k4 | ⟨host, k4⟩
    · exact va_runS (As := [.ref b, .int (nI k)]) C.1 (m_La_cell l D cA b L k H.size xs hL hk) ⟨callB_of 2 ht (mw_good k1) rfl rfl rfl (hmem _ k2) (hmem _ k4) k3 hR, hmem _ ws_La_cell⟩ ⟨hbl0, hpre⟩ rfl rfl hl.1 hstk (lv_room (mw_sum_le hrest)) hd hc
    · exact va_runSN (As := [.ref b, .int (nI k)]) C.1 (m_La_cell l D cA b L k H.size xs hL hk) ⟨va_cnB 2 ht (mw_good k1) rfl rfl rfl (C.2.1 _ k4) (hmem _ k2) k3 hR, hmem _ ws_La_cell, trivial⟩ ⟨hbl0, hpre⟩ rfl rfl hl.1 hstk (lv_room (mw_sum_le hrest)) hd hc
  obtain ⟨v, st₀, t, T', L', h0, X', hL', e1, e2, ⟨⟨r, S1, hv, ⟨x, rfl, hpost⟩, -⟩, hF⟩, hgo⟩ := hrun T hT X
  have hfr : ∀ q, mw_fr false (mw_W cA (fun _ => b) sh0 0 lc_S) H.size q → H.size ≤ q := by
    rintro q (⟨h, -⟩ | h)
    · cases h
    · exact h
  have hF1 : ∀ q, q < H.size → T'.heap[q]? = H[q]? := fun q h1 => by
    rw [e1, ← h0]
    exact hF.2 q (by rw [h0]; exact h1) (fun h => absurd h1 (Nat.not_lt.mpr (hfr q h)))
  have hsz : H.size ≤ T'.heap.size := by rw [e1, ← h0]; exact hF.1
  have hP2 : va_P D vCl (mw_W cA ad sh n S) T'.heap := hP.kept (fun i q hq => hF1 _ (hP i q hq).lt)
  have hS2 : va_S A s.heap T'.heap (locs ++ L') := by
    refine ⟨Nat.le_trans hS.1 hsz, fun q h1 h2 => ?_, fun q hq => ?_⟩
    · rw [hF1 q (Nat.lt_of_lt_of_le h1 hS.1)]
      exact hS.2.1 q h1 h2
    · rcases List.mem_append.mp hq with hq | hq
      · exact hS.2.2 q hq
      · exact C.2.2.2.1 _ (Nat.le_trans hS.1 (hfr _ (hL' q hq)))
  obtain ⟨t2, a1, b1⟩ := kk T'.heap (locs ++ L') ls hP2 hS2 hl T' rfl X'
  refine ⟨t2, hgo t2 ?_, b1⟩
  have ev : v = some (.int x) := by injection hv
  subst ev
  subst hpost
  exact a1
end LWC
