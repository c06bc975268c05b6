/-! what a throw needs of the state; 'new E(text); athrow' -/
/-- a static field that holds a reference or null, in a cell below bd -/
def mt_S (C n d : String) (bd : Nat) (U : State) (H : Heap) : Prop := ∃ (c : ClassId) (k : Class) (i : Nat) (f : Field) (a : Nat) (cell : Cell) (v : Value), U.vm.findClass C = some c ∧ U.fieldFound? C n d = some (c, k, i, f) ∧ f.isStatic = true ∧ k.statics = some a ∧ H[a]? = some cell ∧ cell.vm.isStatics = true ∧ cell.cls = c ∧ f.slot < cell.slots.size ∧ k.staticTypes[f.slot]? = some f.type ∧ cell.slots[f.slot]? = some v ∧ v.isRef = true ∧ a < bd
theorem mt_S.moved {C n d : String} {bd : Nat} {u U : State} {H : Heap} (hvm : u.vm.Alike U.vm) (h : mt_S C n d bd u H) : mt_S C n d bd U H := by
  obtain ⟨c, k, i, f, a, cell, v, h1, h2, h3, h4, h5, h6, h7, h8, h9, h10⟩ := h
  obtain ⟨k', hi', he⟩ := State.fieldFound?_setVm hvm h2
  exact ⟨c, k', i, f, a, cell, v, by rw [hvm.findClass]; exact h1, hi', h3, by rw [he]; exact h4, h5, h6, h7, h8, by rw [he]; exact h9, h10⟩
theorem mt_S.kept {C n d : String} {bd : Nat} {U : State} {H H1 : Heap} (h : mt_S C n d bd U H) (hq : ∀ q, q < bd → H1[q]? = H[q]?) : mt_S C n d bd U H1 := by
  obtain ⟨c, k, i, f, a, cell, v, h1, h2, h3, h4, h5, h6, h7, h8, h9, h10, h11, h12⟩ := h
  exact ⟨c, k, i, f, a, cell, v, h1, h2, h3, h4, by rw [hq a h12]; exact h5, h6, h7, h8, h9, h10, h11, h12⟩
theorem mt_S.of {C n d : String} {args : Array Value} {s : State} (h1 : (Cond.laysStatic C n d).before args s = true) (h2 : (Cond.isRef (.static C n d)).before args s = true) : mt_S C n d s.heap.size s s.heap := by
  obtain ⟨c, k, i, f, a, cell, g1, g2, g3, g4, g5, g6, g7, g8, g9⟩ := Cond.laysStatic_spec h1
  cases hv : (Term.static C n d).eval args s none [] s with
  | none => simp [Cond.before, Cond.holds, Cond.value, hv] at h2
  | some v =>
    obtain ⟨-, a', cell', ha', hcell', -, hslot⟩ := Term.static_spec g2 hv
    cases g4.symm.trans ha'
    cases g5.symm.trans hcell'
    refine ⟨c, k, i, f, a, cell, v, g1, g2, g3, g4, g5, g6, g7, g8, g9, hslot, ?_, (Array.getElem?_eq_some_iff.mp g5).1⟩
    simp only [Cond.before, Cond.holds, Cond.value, hv] at h2
    cases v <;> first | rfl | (simp at h2; done)
theorem mt_S.lays {C n d : String} {bd : Nat} {args : Array Value} {s : State} (h : mt_S C n d bd s s.heap) : (Cond.laysStatic C n d).before args s = true := by
  obtain ⟨c, k, i, f, a, cell, v, h1, h2, h3, h4, h5, h6, h7, h8, h9, h10⟩ := h
  exact Cond.laysStatic_of h1 h2 h3 h4 h5 h6 h7 h8 h9
theorem mt_S.isRef {C n d : String} {bd : Nat} {args : Array Value} {s : State} (h : mt_S C n d bd s s.heap) : (Cond.isRef (.static C n d)).before args s = true := by
  obtain ⟨c, k, i, f, a, cell, v, h1, h2, h3, h4, h5, h6, h7, h8, h9, h10, h11, h12⟩ := h
  have hv : (Term.static C n d).eval args s none [] s = some v := Term.static_eval h2 h3 h4 h5 h6 h10
  simp only [Cond.before, Cond.holds, Cond.value, hv]
  cases v <;> first | rfl | (simp [Value.isRef] at h11; done)
def mt_str : List (Nat × String) := [(53, "no such node or account"), (58, "amount is not 1 .. 99"), (72, "12 transfers wait"), (88, "n is not 0 .. 100"), (98, "no such round or nodes"), (105, "no such places or transfer"), (110, "no node is faulty, or 24 were forged"), (121, "no such kind, node or vertex"), (123, "no node is faulty")]
/-- what the class's throws need of the state, beside the words: two statics of Throwable's, the texts -/
def mt_X (bd : Nat) (U : State) : Prop := mt_S Bundle.tN "UNASSIGNED_STACK" Bundle.steD bd U U.heap ∧ mt_S Bundle.tN "SUPPRESSED_SENTINEL" Bundle.listD bd U U.heap ∧ ∀ q ∈ mt_str, ∃ a, vk_R "WaveLedger" q.1 q.2 a U
theorem mt_X.same {bd : Nat} {u U : State} (hv : U.vm = u.vm) (hh : U.heap = u.heap) (h : mt_X bd u) : mt_X bd U := by
  refine ⟨?_, ?_, fun q hq => ?_⟩
  · rw [hh]; exact h.1.moved (by rw [hv]; exact Vm.Alike.refl _)
  · rw [hh]; exact h.2.1.moved (by rw [hv]; exact Vm.Alike.refl _)
  · obtain ⟨a, ha⟩ := h.2.2 q hq
    exact ⟨a, ha.same hv⟩
theorem mt_X.warm {bd : Nat} {s U : State} (hW : s.WarmedH U.vm) (hh : ∀ q, q < bd → U.heap[q]? = s.heap[q]?) (h : mt_X bd s) : mt_X bd U := by
  refine ⟨(h.1.moved hW.alike).kept hh, (h.2.1.moved hW.alike).kept hh, fun q hq => ?_⟩
  obtain ⟨a, ha⟩ := h.2.2 q hq
  exact ⟨a, ha.warm hW⟩
abbrev mt_up : List String := ["java/lang/RuntimeException", "java/lang/Exception"]
/-- which words 'new E(text); athrow' stands on, and where they are -/
def mt_At (tb : List Cond) (own : String) (ic : Nat) (X : String) : Prop := ∀ w ∈ Bundle.ownAtoms own ic X mt_up, w ∈ mw_G tb ∨ w ∈ mw_N tb ∨ w = .laysStatic Bundle.tN "UNASSIGNED_STACK" Bundle.steD ∨ w = .laysStatic Bundle.tN "SUPPRESSED_SENTINEL" Bundle.listD ∨ w = .isRef (.static Bundle.tN "UNASSIGNED_STACK" Bundle.steD) ∨ w = .isRef (.static Bundle.tN "SUPPRESSED_SENTINEL" Bundle.listD)
/-- a method's end by a throw of an X: nothing old has changed; the object is new -/
def mt_Qc (X : String) : Array Value → State → Outcome → State → Prop := fun _ st oc t => (∃ x, oc = .threw x ∧ st.heap.size ≤ x ∧ ∃ ce : Cell, t.heap[x]? = some ce ∧ st.vm.findClass X = some ce.cls ∧ ce.vm = .none) ∧ st.heap.size ≤ t.heap.size ∧ ∀ q, q < st.heap.size → t.heap[q]? = st.heap[q]?
theorem mt_old {s U : State} {locs : List Loc} {k n : Nat} (h : s.sameButNew ({ U with vm := s.vm } : State) locs k n) (hl : ∀ q ∈ locs, s.heap.size ≤ q.base) : s.heap.size ≤ U.heap.size ∧ ∀ q, q < s.heap.size → U.heap[q]? = s.heap[q]? := by
  obtain ⟨-, h2, -, -, -, h6⟩ := h
  refine ⟨h2, fun q hq => ?_⟩
  have e0 : s.heap[q]? = some s.heap[q] := Array.getElem?_eq_getElem hq
  obtain ⟨c', g1, g2, g3, g4⟩ := h6 q _ e0
  have g1 : U.heap[q]? = some c' := g1
  rw [g1, e0, g2]
  congr 1
  have es : c'.slots = (s.heap[q]).slots := by
    apply Array.ext_getElem?
    intro i
    exact g4 i (fun hm => absurd (hl _ hm) (Nat.not_le.mpr hq))
  rw [es]
section MTT
variable {p : Program} {l : Launch} {e : Env} {R : Room} {s : State} {m : MethodId} {args : Array Value} {below : List Frame} {meth : Method} {c : Code}
variable {cc : ByteArray} {nL : Nat} {own : String} {b0 : Cond} {tb : List Cond} {D : va_G} {cl : List vw_C} {cA : Nat → ClassId} {A : Nat → Prop} {ad : Nat → Nat} {sh : Nat → mw_H} {n : Nat}
variable {pc : Nat} {lv : List (Nat × mw_V)} {S : mw_S}
set_option maxHeartbeats 4000000 in
theorem mt_throw (C : mw_C p m c s args cc nL own b0 tb D cl cA A ad n false) {X tx : String} {inew ic is bd : Nat} (htr : l.stackTraces = false) (hAe : ∀ q, A q → s.heap.size ≤ q) (hlk : meth.locks = false) (hex : c.exceptionTable.isEmpty = true) (hZ : mt_X bd s) (hown : own = "WaveLedger") (htx : (is, tx) ∈ mt_str)
    (hcl : Cond.classLink own inew X ∈ mw_G tb) (hin : Cond.instantiable X 6 ∈ mw_G tb) (hini : Cond.initialized X ∈ mw_G tb) (hat : mt_At tb own ic X) (hfx : Bundle.fit X = true)
    (d0 : decode cc pc = .ok (.new inew, 3)) (d3 : decode cc (pc + 3) = .ok (.dup, 1)) (d4 : decode cc (pc + 4) = .ok (.ldc is, 2)) (d6 : decode cc (pc + 6) = .ok (.invokespecial ic, 3)) (d9 : decode cc (pc + 9) = .ok (.athrow, 1))
    (hRc : 1 ≤ R.cells) (hRs : 6 ≤ R.slots) (hRf : 5 < R.frames) (hRl : 82 ≤ R.locals) :
    mw p l e R s m args below meth c (mt_MQ below (mt_Qc X) args s 1 6 A) 0 0 D cl cA A ad sh n nL pc lv [] S := by
  intro H locs ls hP hS hl T hT Y
  have hx := C.1.1
  have hb := C.1.2.1
  have how := C.1.2.2.2.1
  have hmem : ∀ w, w ∈ mw_G tb → w.before args s = true := fun w h => C.1.2.2.2.2 w (List.mem_cons_of_mem _ h)
  have hats : ∀ w ∈ Bundle.ownAtoms own ic X mt_up, w.before args s = true := by
    intro w hw
    rcases hat w hw with h | h | rfl | rfl | rfl | rfl
    · exact hmem w h
    · exact va_Nw.use (mw_nk_tabs (List.mem_filter.mp h).2) (C.2.1 w h)
    · exact hZ.1.lays
    · exact hZ.2.1.lays
    · exact hZ.1.isRef
    · exact hZ.2.1.isRef
  have htrE : e.platform.stackTraces = false := by rw [show e.platform.stackTraces = l.stackTraces from by rw [Y.admits.platform]]; exact htr
  obtain ⟨qa, hqa⟩ := hZ.2.2 _ htx
  have hstr : (Cond.stringRef own is tx).before args s = true := by
    rw [hown]
    have h9 := hqa.1
    first
      | exact h9
      | simpa only [Cond.before, Cond.holds, Cond.value] using h9
  obtain ⟨-, -, -, a', -, -, -, -, -, hev⟩ := Cond.stringRef_spec how hstr
  obtain ⟨vm1, cX, kX, hfX, hkX, -, -, Y1, st1⟩ := Y.newCold hx (own := own) (C := X) (index := inew) (n := 6) how (hmem _ hcl) (hmem _ hin) (hmem _ hini) (g := F0 m pc ls []) rfl (by rw [hb]; exact d0) (by simpa using hRc) (by simpa using hRs)
  have hsz : s.heap.size ≤ T.heap.size := by rw [hT]; exact hS.1
  generalize hT1 : (T.setVm vm1).pushCell { cls := cX, slots := kX.instanceTypes.map defaultValue, vm := .none } = T1 at Y1 st1
  have hcA : T1.heap[T.heap.size]? = some (freshCell cX kX) := by rw [← hT1]; exact State.heap_pushCell_size _ _
  obtain ⟨U, hsteps, hrun, hend, hW, hsame, ce, hce, K⟩ := Y1.ctorThrowS hx htrE (own := own) (cls := X) (names := mt_up) (ic := ic) how hfx (by decide +kernel) hats
    (fun x hx' cell hc' => by
      have h9 : x.base < s.heap.size := (Array.getElem?_eq_some_iff.mp hc').1
      exact absurd (hAe _ (hS.2.2 x hx')) (Nat.not_le.mpr h9))
    hfX hkX hcA hsz (msg := .ref a') rfl (g := F0 m (pc + 6) ls [.ref a', .ref T.heap.size, .ref T.heap.size]) rfl (by rw [C.1.2.2.1]; exact hl.1) rfl rfl (rest := []) rfl (by rw [hb]; exact d6) (by rw [hb]; exact d9)
    (covers_of_empty hex _) hRf (by
      show 2 * 0 + (1 + 0) + (13 * (2 + 1) + 42) ≤ R.locals
      omega) hlk
  obtain ⟨o1, o2⟩ := mt_old hsame (fun q hq => hAe _ (hS.2.2 q hq))
  refine ⟨U, ?_, .threw T.heap.size, hrun, hend, ⟨⟨T.heap.size, rfl, hsz, ce, hce, K.cls, K.vm⟩, o1, o2⟩, locs, ⟨⟨_, rfl⟩, hW, by simpa using hsame⟩, hS.2.2⟩
  refine st1 _ ?_
  show Steps p.tables e below (T1.setTop (F0 m (pc + 3) ls [.ref T.heap.size])) _
  jvm_step Y1.here [Y1.here.top, hx, hb, d3, Value.category]
  refine Y1.ldcString hx how hstr hev (g := F0 m (pc + 4) ls [.ref T.heap.size, .ref T.heap.size]) rfl (by rw [hb]; exact d4) _ ?_
  exact hsteps
end MTT
