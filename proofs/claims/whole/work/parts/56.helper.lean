/-! the law's helpers: a call that is refused is caught -/
def sh_He : Nat → mw_H := fun k => if k = 69 then .inl (1, 1, .inl 1) else sh_Wl k
theorem ix_Wl_He : mw_ix sh_Wl 69 sh_He 70 [0, 1, 2, 3, 4, 5, 6, 7, 8, 9, 10, 11, 12, 13, 14, 15, 16, 17, 18, 19, 20, 21, 22, 23, 24, 25, 26, 27, 28, 29, 30, 31, 32, 33, 34, 35, 36, 37, 38, 39, 40, 41, 42, 43, 44, 45, 46, 47, 48, 49, 50, 51, 52, 53, 54, 55, 56, 57, 58, 59, 60, 61, 62, 63, 64, 65, 66, 67, 68] := mw_ix_of (by decide +kernel)
abbrev nIAE : String := "java/lang/IllegalArgumentException"
abbrev nISE : String := "java/lang/IllegalStateException"
/-- what the law's helpers need of the state beside their words and their world -/
def mh_X (bd : Nat) (U : State) : Prop := mt_X bd U ∧ (Cond.not (.castable nISE nIAE)).before #[] U = true
/-- the world's cells, and all that come, lie above bd -/
def mh_B (bd : Nat) (ad : Nat → Nat) (n sz : Nat) : Prop := bd ≤ sz ∧ ∀ k, k < n → bd ≤ ad k
def mh_M (l : Launch) (tb : List Cond) (y : MethodName) (cc : ByteArray) (maxL : Nat) (ret : Option FieldType) (hh : List (Nat × Nat × Nat × Nat)) (rm : Room) (D : va_G) (cl : List vw_C) (cA : Nat → ClassId) (sh : Nat → mw_H) (n : Nat) (as : List mw_V) (S : mw_S) (bd : Nat) (post : Option mw_V → mw_S → Prop) : Prop :=
  ∀ (ad : Nat → Nat) (sz : Nat), mh_B bd ad n sz → Met l y (Cond.codeWith y cc maxL ret hh :: mw_G tb) rm (fun v U => mw_Pc D cl cA tb ad sh n sz as S v U ∧ mh_X bd U) (mw_Qc true D cl cA ad sh n sz S post) 1 6 (mw_fr true (mw_W cA ad sh n S) sz)
theorem mh_M_of {l : Launch} {y : MethodName} {tb : List Cond} {rm : Room} {D : va_G} {cl : List vw_C} {cA : Nat → ClassId} {sh : Nat → mw_H} {n : Nat} {as : List mw_V} {S : mw_S} {post : Option mw_V → mw_S → Prop} {cc : ByteArray} {maxL bd : Nat} {ret : Option FieldType} {hh : List (Nat × Nat × Nat × Nat)}
    (hy : plainName y.cls = true) (hlen : mw_words as ≤ maxL)
    (body : ∀ (p : Program) (e : Env) (s : State) (m : MethodId) (args : Array Value) (below : List Frame) (meth : Method) (c : Code) (A : Nat → Prop) (ad : Nat → Nat), mw_C p m c s args cc maxL y.cls (Cond.codeWith y cc maxL ret hh) tb D cl cA A ad n true → (meth.sig.returnType = ret ∧ meth.locks = false ∧ A = mw_fr true (mw_W cA ad sh n S) s.heap.size) → (c.exceptionTable.toList = hh.map (fun q => ⟨q.1, q.2.1, q.2.2.1, q.2.2.2⟩) ∧ mh_X bd s ∧ bd ≤ s.heap.size ∧ ∀ q, A q → bd ≤ q) →
      mw p l e rm s m args below meth c (MQ below (mw_Qc true D cl cA ad sh n s.heap.size S post) args s 1 6 A) 0 0 D cl cA A ad sh n maxL 0 (mw_args 0 as) [] S) : mh_M l tb y cc maxL ret hh rm D cl cA sh n as S bd post := by
  intro ad sz hB
  refine va_MetW (cc := cc) (maxL := maxL) (ret := ret) (hh := hh) hy rfl ?_
  intro p e s m args below meth c s₁ B hml hv
  obtain ⟨⟨rfl, hsz, hP, hK, hN, hi⟩, hX⟩ := hv
  subst hsz
  have hts := atoms_spec (ws := Cond.codeWith y cc maxL ret hh :: mw_G tb) B.pre
  have hown : s.vm.findClass y.cls = some m.cls := findClass_of_methodNamed B.named
  have hl := lv_entry (as.map (mw_tv ad)) (n := maxL) (by rw [mw_words_len]; exact hlen)
  rw [mw_args_map] at hl
  rw [lg_entry_eq]
  obtain ⟨m', meth', c', hn', hm', hc', -, -, htab, -, -, -⟩ := Cond.codeWith_spec (hts _ List.mem_cons_self)
  cases hn'.symm.trans B.named
  cases B.method.symm.trans hm'
  cases (Stand.of_body B).code.symm.trans hc'
  exact body p e s m _ below meth c _ ad ⟨⟨B.exec, B.bytes, hml, hown, hts⟩, hN, hK, fun q h => Or.inr h, hi, fun hw k hk => Or.inl ⟨hw, k, _, mw_W_get hk⟩⟩ ⟨B.returns, B.notSynchronized, rfl⟩ ⟨by rw [← htab, List.map_map]; exact (List.map_id _).symm, hX, hB.1, fun q h => by
    rcases h with ⟨-, k, z, hz⟩ | h
    · obtain ⟨hk, hz⟩ := mw_W_some hz
      have e9 : q = ad k := congrArg Prod.fst hz
      rw [e9]
      exact hB.2 k hk
    · exact Nat.le_trans hB.1 h⟩ s.heap [] _ hP va_S.rf hl

/-- at the helper's call: which row of its table takes an X -/
theorem mh_cl {s : State} {args : Array Value} {own X : String} {index : Nat} {m : MethodId} {e : Env} {p : Program} {l : Launch} {R : Room} {below : List Frame} {meth : Method} {c : Code} {T : State} {locs : List Loc} {cells slots : Nat} (Y : Stand p l e R s m args below meth c T locs cells slots) (hown : s.vm.findClass own = some m.cls) (h : (Cond.classLink own index X).before args s = true) : ∃ k, s.vm.findClass X = some k ∧ s.vm.ClassLinks e.platform m.cls index k :=
  Cond.classLink_spec hown h e.platform (by rw [Y.admits.platform])
theorem mh_yes {s : State} {X : String} {k : ClassId} (h : va_Nw (.castable X X) s) (hk : s.vm.findClass X = some k) : s.vm.assignable k k = true := by
  have h1 := h
  simp only [va_Nw, Cond.before, Cond.holds, Cond.value, hk] at h1
  simpa using h1
theorem mh_not {s : State} {X Y : String} {k j : ClassId} (h : (Cond.not (.castable X Y)).before #[] s = true) (hk : s.vm.findClass X = some k) (hj : s.vm.findClass Y = some j) : s.vm.assignable k j = false := by
  have hv := Cond.holds_not_iff.mp h
  simp only [Cond.value, hk, hj] at hv
  exact Option.some.inj hv
section MHC
variable {p : Program} {l : Launch} {e : Env} {R : Room} {s : State} {m : MethodId} {args : Array Value} {below : List Frame} {meth : Method} {c : Code} {Q : State → Prop}
variable {cc : ByteArray} {nL : Nat} {own : String} {b0 : Cond} {tb : List Cond} {D : va_G} {cl : List vw_C} {cA : Nat → ClassId} {A : Nat → Prop} {ad : Nat → Nat} {sh : Nat → mw_H} {n : Nat}
variable {pc : Nat} {lv : List (Nat × mw_V)} {st : List mw_V} {S : mw_S}
theorem mh_goI (C : mw_C p m c s args cc nL own b0 tb D cl cA A ad n true) {T : State} {locs : List Loc} {cells slots : Nat} (Y : Stand p l e R s m args below meth c T locs cells slots) {x : ExceptionTableEntry} {t : List ExceptionTableEntry} {g : JFrame} (hg : g.method = m) (hx : covers x g.pc = true) (h0 : x.catchType ≠ 0) (hl : Cond.classLink own x.catchType nIAE ∈ mw_G tb) (hca : Cond.castable nIAE nIAE ∈ mw_N tb) :
    ∃ kc, s.vm.findClass nIAE = some kc ∧ mt_Go e s g (x :: t) kc x.handlerPc := by
  obtain ⟨k, hk, hkl⟩ := mh_cl Y C.1.2.2.2.1 (C.1.2.2.2.2 _ (List.mem_cons_of_mem _ hl))
  subst hg
  exact ⟨k, hk, mt_Go_row hx h0 hkl (Vm.classAt_of_findClass hk) (mh_yes (C.2.1 _ hca) hk) (by rw [if_pos rfl])⟩
theorem mh_goS (C : mw_C p m c s args cc nL own b0 tb D cl cA A ad n true) {T : State} {locs : List Loc} {cells slots : Nat} (Y : Stand p l e R s m args below meth c T locs cells slots) (hno : (Cond.not (.castable nISE nIAE)).before #[] s = true) {x x2 : ExceptionTableEntry} {t : List ExceptionTableEntry} {g : JFrame} (hg : g.method = m) (hx : covers x g.pc = true) (h0 : x.catchType ≠ 0) (hx2 : covers x2 g.pc = true) (h02 : x2.catchType ≠ 0) (hl : Cond.classLink own x.catchType nIAE ∈ mw_G tb) (hl2 : Cond.classLink own x2.catchType nISE ∈ mw_G tb) (hca : Cond.castable nISE nISE ∈ mw_N tb) :
    ∃ kc, s.vm.findClass nISE = some kc ∧ mt_Go e s g (x :: x2 :: t) kc x2.handlerPc := by
  obtain ⟨k, hk, hkl⟩ := mh_cl Y C.1.2.2.2.1 (C.1.2.2.2.2 _ (List.mem_cons_of_mem _ hl))
  obtain ⟨k2, hk2, hkl2⟩ := mh_cl Y C.1.2.2.2.1 (C.1.2.2.2.2 _ (List.mem_cons_of_mem _ hl2))
  subst hg
  refine ⟨k2, hk2, mt_Go_row hx h0 hkl (Vm.classAt_of_findClass hk2) (mh_not hno hk2 hk) ?_⟩
  rw [if_neg (by decide)]
  exact mt_Go_row hx2 h02 hkl2 (Vm.classAt_of_findClass hk2) (mh_yes (C.2.1 _ hca) hk2) (by rw [if_pos rfl])
set_option maxHeartbeats 4000000 in
/-- invokevirtual of a method that throws an X, where a row of the caller's table takes it -/
theorem mh_invT (C : mw_C p m c s args cc nL own b0 tb D cl cA A ad n true) {index : Nat} {y : MethodName} {bytes : ByteArray} {maxL np bd hpc : Nat} {ret : Option FieldType} {rm : Room} {sh' : Nat → mw_H} {n' : Nat} {ix : List Nat} {kk : Nat} {as rest : List mw_V} {ci : Nat} {Tf : u_T} {N : Nat} {fk : List (Nat ⊕ Nat)} {X : String} {tbl : List ExceptionTableEntry}
    (hM : mt_M l tb y bytes maxL ret rm D cl cA sh' n' (.inr (.inr kk) :: as) (mw_rs S ix) bd X) (hx : mw_ix sh' n' sh n ix) (hc1 : Cond.code y bytes maxL ret ∈ mw_G tb) (hc2 : Cond.initialized y.cls ∈ mw_G tb) (hc3 : y.cls ≠ "java/lang/invoke/MethodHandle" ∧ y.cls ≠ "java/lang/invoke/VarHandle" ∧ (parseMethodDescriptor y.desc).map (fun d => d.parameters.length) = some np) (hc4 : Cond.methodLink own index y ∈ mw_G tb)
    (hin : Cond.instanceMethod y ∈ mw_G tb) (hse : Cond.selects y.cls y y ∈ mw_G tb) (hkk : kk < n') (hsh : sh' kk = .inr (ci, fk)) (hci : cl[ci]? = some (y.cls, Tf, N)) (hd : decode cc pc = .ok (.invokevirtual index, 3)) (hn : as.length = np) (hs : (as.map (mw_rv ix)).reverse ++ .inr (.inr (mw_ixf ix kk)) :: rest = st) (hrest : mw_words rest ≤ 8)
    (hrc : rm.cells = 1) (hrs : rm.slots = 6) (hR : rm.frames + 1 ≤ R.frames ∧ 8 + (maxL + 11) + rm.locals ≤ R.locals) (hRc : 1 ≤ R.cells) (hRs : 6 ≤ R.slots) (hZ : mt_X bd s) (hbs : bd ≤ s.heap.size) (hbA : ∀ q, A q → bd ≤ q) (htbl : c.exceptionTable.toList = tbl)
    (hgo : ∀ (T : State) (locs : List Loc) (g : JFrame), Stand p l e R s m args below meth c T locs 0 0 → g.method = m → g.pc = pc → ∃ kc, s.vm.findClass X = some kc ∧ mt_Go e s g tbl kc hpc)
    (k : ∀ (x : Nat) (H : Heap) (locs : List Loc) (ls : Array Slot), va_P D cl (mw_W cA ad sh n S) H → va_S A s.heap H locs → lv_has ls nL (mw_lm ad lv) → W p l e R s m args below meth c H locs 1 6 Q (F0 m hpc ls [.ref x])) :
    mw p l e R s m args below meth c Q 0 0 D cl cA A ad sh n nL pc lv st S := by
  subst hs
  intro H locs ls hP hS hl T hT Y
  have hmem : ∀ w, w ∈ mw_G tb → w.before args s = true := fun w h => C.1.2.2.2.2 w (List.mem_cons_of_mem _ h)
  obtain ⟨cellB, hcB, hoB, hclB⟩ := va_recv C.2.2.1 (mw_part hx hP) hci (show (mw_W cA (fun k => ad (mw_ixf ix k)) sh' n' (mw_rs S ix))[kk]? = some (ad (mw_ixf ix kk), .inr (ci, _)) by rw [mw_W_get hkk, hsh]; rfl)
  have hstk : (((as.map (mw_rv ix)).reverse ++ .inr (.inr (mw_ixf ix kk)) :: rest).map (mw_tv ad)) = (as.map (mw_tv (fun k => ad (mw_ixf ix k)))).reverse ++ .ref (ad (mw_ixf ix kk)) :: rest.map (mw_tv ad) := mw_asr ix as (.inr (.inr (mw_ixf ix kk)) :: rest)
  obtain ⟨mk, methM, hnamed, hmethM, hstM, habM⟩ := Cond.instanceMethod_spec (hmem _ hin)
  obtain ⟨methM', cM, hmethM', -, -, -, -, -, -, hsigM⟩ := Cond.code_spec hnamed (hmem _ hc1)
  cases hmethM.symm.trans hmethM'
  obtain ⟨c2, r2, m2, q1, q2, q3, q4, kP, hkP, hkPi⟩ := Cond.selects_spec (hmem _ hse)
  cases hclB.symm.trans q1
  cases (State.methodFound?_of_named hnamed ⟨hc3.1, hc3.2.1⟩).symm.trans q2
  cases hnamed.symm.trans q3
  have hselP : selectMethod e.platform s.vm cellB.cls mk = .method mk := by rw [Launch.admits_selectMethod Y.admits]; exact q4
  have hnp : (as.map (mw_tv (fun k => ad (mw_ixf ix k)))).length = methM.sig.parameters.length := by
    have h2 := hc3.2.2
    rw [hsigM] at h2
    rw [List.length_map, hn]
    exact (Option.some.inj h2).symm
  obtain ⟨vm1, Y1, st1⟩ := Y.invokevirtual C.1.1 C.1.2.2.2.1 (hmem _ hc4) hnamed hmethM hstM hkP hkPi ⟨hc3.1, hc3.2.1⟩ (a := ad (mw_ixf ix kk)) (cell := cellB) (by rw [hT]; exact hcB)
    (fun z h => by rw [h] at hoB; cases hoB) hselP hmethM habM hkP hkPi (g := F0 m pc ls (((as.map (mw_rv ix)).reverse ++ .inr (.inr (mw_ixf ix kk)) :: rest).map (mw_tv ad))) rfl (argsL := as.map (mw_tv (fun k => ad (mw_ixf ix k)))) (rest := rest.map (mw_tv ad)) hnp hstk (by rw [C.1.2.1]; exact hd)
  have hW1 : s.WarmedH vm1 := Y1.warmed
  have hold : ∀ q, q < bd → H[q]? = s.heap[q]? := fun q hq => hS.2.1 q (Nat.lt_of_lt_of_le hq hbs) (fun h => absurd (hbA q h) (Nat.not_le.mpr hq))
  obtain ⟨x, t, T', L, Y2, hL, e1, e2, ⟨⟨x', hx', hxs, ce, hce, hcc, hvm⟩, hsz, hsame⟩, hsteps⟩ := mt_thrown Y1 (hM (fun k => ad (mw_ixf ix k)) H.size) (fun a U g mk q => ⟨mw_blind _ _ g mk q.1, mt_X.same (u := U) (U := U.calling g mk a) rfl rfl q.2⟩) hrc hrs hR.1 hR.2
    (pay_in C.1.2.2.2.2 (mw_good hc1)) List.mem_cons_self (fun a' U' hW' => word_at hW' (good_of_word (List.mem_filter.mp hc2).2) (hmem _ hc2))
    (g := F0 m pc ls (rest.map (mw_tv ad))) rfl (hl.1.trans C.1.2.2.1.symm) (by rw [C.1.2.1]; exact hd) (lv_room (mw_sum_le hrest)) (mk := mk) (a := ((.inr (.inr kk) :: as).map (mw_tv (fun k => ad (mw_ixf ix k)))).toArray) (Y1.named hnamed) (by simpa using hRc) (by simpa using hRs)
    ⟨mw_pre C hx hP (T.setVm vm1) hT hW1, hZ.warm hW1 (fun q hq => by rw [show (T.setVm vm1).heap = H from hT]; exact hold q hq)⟩
  cases hx'
  have hh0 : ((T.setVm vm1).calling (F0 m pc ls (rest.map (mw_tv ad))) mk ((.inr (.inr kk) :: as).map (mw_tv (fun k => ad (mw_ixf ix k)))).toArray).heap = H := hT
  rw [hh0] at hsz hsame hxs
  obtain ⟨kc, hkc, hgo1⟩ := hgo T locs (F0 m pc ls (rest.map (mw_tv ad))) Y rfl rfl
  have hcc1 : s.vm.findClass X = some ce.cls := by
    have h9 : vm1.findClass X = some ce.cls := hcc
    rw [hW1.alike.findClass] at h9
    exact h9
  have ekc : ce.cls = kc := Option.some.inj (hcc1.symm.trans hkc)
  obtain ⟨vm', hWv, hq⟩ := hgo1 ((T'.setTop (F0 m pc ls (rest.map (mw_tv ad)))).pushFrame (.throwing x)) x ce Y2.warmed (show T'.heap[x]? = some ce by rw [e1]; exact hce) (fun z hz => by rw [hvm] at hz; cases hz) ekc
  have hP2 : va_P D cl (mw_W cA ad sh n S) T'.heap := hP.kept (fun i q hq' => by rw [e1]; exact hsame _ (hP i q hq').lt)
  have hS2 : va_S A s.heap T'.heap (locs ++ L) := by
    refine ⟨Nat.le_trans hS.1 (by rw [e1]; exact hsz), fun q h1 h2 => ?_, fun q hq' => ?_⟩
    · rw [e1, hsame q (Nat.lt_of_lt_of_le h1 hS.1)]
      exact hS.2.1 q h1 h2
    · rcases List.mem_append.mp hq' with h | h
      · exact hS.2.2 q h
      · rcases hL q h with ⟨h9, -⟩ | h9
        · cases h9
        · exact C.2.2.2.1 _ (Nat.le_trans hS.1 h9)
  obtain ⟨tt, a1, b1⟩ := k x T'.heap (locs ++ L) ls hP2 hS2 hl (T'.setVm vm') rfl (by simpa using Y2.noted hWv)
  refine ⟨tt, st1 tt (fun acts => ?_), b1⟩
  rw [doInvoke_state]
  refine hsteps.trans (mt_caught (vm' := vm') (pc := hpc) Y2.here (fun Q E d acts => ?_) a1)
  rw [W.findHandler_eq (meth := meth) (code := c) Y2.method' Y2.code, htbl]
  exact hq Q E d acts
end MHC
