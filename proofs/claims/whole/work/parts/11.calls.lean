/-! CONTRACTS OVER THE MINI WORLD, AND CALLS -/
-- a callee's world out of its caller's
def mw_ixf (ix : List Nat) (k : Nat) : Nat := ix.getD k 0
def mw_rs (S : mw_S) (ix : List Nat) : mw_S := (fun k => S.1 (mw_ixf ix k), fun k => S.2 (mw_ixf ix k))
def mw_pos : List Nat → Nat → Option Nat
  | [], _ => none
  | a :: l, i => cond (Nat.beq a i) (some 0) ((mw_pos l i).map Nat.succ)
def mw_mg (S : mw_S) (ix : List Nat) (S' : mw_S) : mw_S := (fun i => match mw_pos ix i with
  | some k => S'.1 k
  | none => S.1 i, fun i => match mw_pos ix i with
  | some k => S'.2 k
  | none => S.2 i)
def mw_rfk (ix : List Nat) : Nat ⊕ Nat → Nat ⊕ Nat
  | .inl z => .inl z
  | .inr r => .inr (mw_ixf ix r)
def mw_okc (ix : List Nat) (h' h : mw_H) : Bool := match h' with
  | .inl (t, n, .inl z) => decide (h = .inl (t, n, .inl z))
  | .inl (t, n, .inr f) => decide (h = .inl (t, n, .inr (f.map (mw_ixf ix))))
  | .inr (ci, fk) => decide (h = .inr (ci, fk.map (mw_rfk ix)))
def mw_rv (ix : List Nat) : mw_V → mw_V
  | .inl x => .inl x
  | .inr (.inl y) => .inr (.inl y)
  | .inr (.inr k) => .inr (.inr (mw_ixf ix k))
theorem mw_rv_tv (ad : Nat → Nat) (ix : List Nat) (v : mw_V) : mw_tv (fun k => ad (mw_ixf ix k)) v = mw_tv ad (mw_rv ix v) := by
  match v with
  | .inl _ => rfl
  | .inr (.inl _) => rfl
  | .inr (.inr _) => rfl
theorem mw_pos_lt : ∀ {ix : List Nat} {i k : Nat}, mw_pos ix i = some k → k < ix.length ∧ mw_ixf ix k = i
  | [], i, k, h => by cases h
  | a :: l, i, k, h => by
    unfold mw_pos at h
    cases hb : Nat.beq a i with
    | true =>
      rw [hb] at h
      have e : (0 : Nat) = k := Option.some.inj h
      subst e
      exact ⟨by simp, Nat.eq_of_beq_eq_true hb⟩
    | false =>
      rw [hb] at h
      cases hp : mw_pos l i with
      | none => rw [hp] at h; cases h
      | some j =>
        rw [hp] at h
        have e : Nat.succ j = k := Option.some.inj h
        subst e
        obtain ⟨h1, h2⟩ := mw_pos_lt hp
        refine ⟨by simp only [List.length_cons]; omega, ?_⟩
        show (a :: l).getD (j + 1) 0 = i
        simpa [mw_ixf] using h2
theorem mw_okc_e {cA : Nat → ClassId} {ad : Nat → Nat} {S : mw_S} {ix : List Nat} {k : Nat} {h' h : mw_H} (ho : mw_okc ix h' h = true) : mw_e cA (fun k => ad (mw_ixf ix k)) (mw_rs S ix) k h' = mw_e cA ad S (mw_ixf ix k) h := by
  match h' with
  | .inl (t, n, .inl 0) =>
    have e : h = .inl (t, n, .inl 0) := of_decide_eq_true ho
    subst e; rfl
  | .inl (t, n, .inl (z + 1)) =>
    have e : h = .inl (t, n, .inl (z + 1)) := of_decide_eq_true ho
    subst e; rfl
  | .inl (t, n, .inr f) =>
    unfold mw_okc at ho
    have e : h = .inl (t, n, .inr (f.map (mw_ixf ix))) := of_decide_eq_true ho
    subst e
    have e2 : (fun j : Nat => (f[j]?).map (fun k => ad (mw_ixf ix k))) = (fun j : Nat => ((f.map (mw_ixf ix))[j]?).map ad) := by
      funext j
      rw [List.getElem?_map, Option.map_map]
      rfl
    simp only [mw_e, e2]
  | .inr (ci, fk) =>
    have e : h = .inr (ci, fk.map (mw_rfk ix)) := of_decide_eq_true ho
    subst e
    have e2 : mw_fv (fun k => ad (mw_ixf ix k)) (mw_rs S ix) k fk = mw_fv ad S (mw_ixf ix k) (fk.map (mw_rfk ix)) := by
      apply List.ext_getElem?
      intro j
      cases hx : fk[j]? with
      | none =>
        have hl : fk.length ≤ j := List.getElem?_eq_none_iff.mp hx
        rw [List.getElem?_eq_none (by rw [mw_fv_len]; exact hl), List.getElem?_eq_none (by rw [mw_fv_len, List.length_map]; exact hl)]
      | some z =>
        rw [mw_fv_at hx, mw_fv_at (fk := fk.map (mw_rfk ix)) (x := mw_rfk ix z) (by rw [List.getElem?_map, hx]; rfl)]
        match z with
        | .inl 0 => rfl
        | .inl 1 => rfl
        | .inl (_ + 2) => rfl
        | .inr _ => rfl
    simp only [mw_e, e2]
/-- the callee's places ix among the caller's -/
def mw_ix (sh' : Nat → mw_H) (n' : Nat) (sh : Nat → mw_H) (n : Nat) (ix : List Nat) : Prop := ix.length = n' ∧ (∀ k, k < n' → mw_ixf ix k < n ∧ mw_okc ix (sh' k) (sh (mw_ixf ix k)) = true ∧ mw_pos ix (mw_ixf ix k) = some k)
def mw_ixb (sh' : Nat → mw_H) (n' : Nat) (sh : Nat → mw_H) (n : Nat) (ix : List Nat) : Bool := Nat.beq ix.length n' && (List.range n').all (fun k => decide (mw_ixf ix k < n) && (mw_okc ix (sh' k) (sh (mw_ixf ix k)) && decide (mw_pos ix (mw_ixf ix k) = some k)))
theorem mw_ix_of {sh' : Nat → mw_H} {n' : Nat} {sh : Nat → mw_H} {n : Nat} {ix : List Nat} (h : mw_ixb sh' n' sh n ix = true) : mw_ix sh' n' sh n ix := by
  unfold mw_ixb at h
  simp only [Bool.and_eq_true, List.all_eq_true, decide_eq_true_eq, List.mem_range] at h
  exact ⟨Nat.eq_of_beq_eq_true h.1, fun k hk => ⟨(h.2 k hk).1, (h.2 k hk).2.1, (h.2 k hk).2.2⟩⟩
-- contracts: w: it may write its world's cells
def mw_fr (w : Bool) (ws : va_W) (sz : Nat) : Nat → Prop := fun q => (w = true ∧ ∃ (k : Nat) (z : va_E), ws[k]? = some (q, z)) ∨ sz ≤ q
def mw_Pc (D : va_G) (cl : List vw_C) (cA : Nat → ClassId) (tb : List Cond) (ad : Nat → Nat) (sh : Nat → mw_H) (n sz : Nat) (as : List mw_V) (S : mw_S) : Array Value → State → Prop := va_Pc (as.map (mw_tv ad)) (fun U => U.heap.size = sz ∧ va_P D cl (mw_W cA ad sh n S) U.heap ∧ va_K D cl (mw_T cA) U ∧ (∀ w ∈ mw_N tb, va_Nw w U) ∧ ∀ i j, i < n → j < n → ad i = ad j → i = j)
def mw_Qc (w : Bool) (D : va_G) (cl : List vw_C) (cA : Nat → ClassId) (ad : Nat → Nat) (sh : Nat → mw_H) (n sz : Nat) (S : mw_S) (post : Option mw_V → mw_S → Prop) : Array Value → State → Outcome → State → Prop := fun _ st oc t => (∃ (r : Option mw_V) (S' : mw_S), oc = .returned (r.map (mw_tv ad)) ∧ post r S' ∧ va_P D cl (mw_W cA ad sh n S') t.heap) ∧ va_F (mw_fr w (mw_W cA ad sh n S) sz) st t
def mw_M (w : Bool) (l : Launch) (tb : List Cond) (y : MethodName) (cc : ByteArray) (maxL : Nat) (ret : Option FieldType) (rm : Room) (D : va_G) (cl : List vw_C) (cA : Nat → ClassId) (sh : Nat → mw_H) (n : Nat) (as : List mw_V) (S : mw_S) (post : Option mw_V → mw_S → Prop) : Prop := ∀ (ad : Nat → Nat) (sz : Nat), Met l y (Cond.code y cc maxL ret :: mw_G tb) rm (mw_Pc D cl cA tb ad sh n sz as S) (mw_Qc w D cl cA ad sh n sz S post) 0 0 (mw_fr w (mw_W cA ad sh n S) sz)
def mw_Pi (post : Int32 → mw_S → Prop) : Option mw_V → mw_S → Prop := fun r S' => ∃ x, r = some (.inl x) ∧ post x S'
def mw_Pl (post : Int64 → mw_S → Prop) : Option mw_V → mw_S → Prop := fun r S' => ∃ x, r = some (.inr (.inl x)) ∧ post x S'
def mw_Pv (post : mw_S → Prop) : Option mw_V → mw_S → Prop := fun r S' => r = none ∧ post S'
theorem mw_M_of {w : Bool} {l : Launch} {y : MethodName} {tb : List Cond} {rm : Room} {D : va_G} {cl : List vw_C} {cA : Nat → ClassId} {sh : Nat → mw_H} {n : Nat} {as : List mw_V} {S : mw_S} {post : Option mw_V → mw_S → Prop} {cc : ByteArray} {maxL : Nat} {ret : Option FieldType}
    (hy : plainName y.cls = true) (hlen : mw_words as ≤ maxL)
    (body : ∀ (p : Program) (e : Env) (s : State) (m : MethodId) (args : Array Value) (below : List Frame) (meth : Method) (c : Code) (A : Nat → Prop) (ad : Nat → Nat), mw_C p m c s args cc maxL y.cls (Cond.code y cc maxL ret) tb D cl cA A ad n w → (meth.sig.returnType = ret ∧ meth.locks = false ∧ A = mw_fr w (mw_W cA ad sh n S) s.heap.size) →
      mw p l e rm s m args below meth c (MQ below (mw_Qc w D cl cA ad sh n s.heap.size S post) args s 0 0 A) 0 0 D cl cA A ad sh n maxL 0 (mw_args 0 as) [] S) : mw_M w l tb y cc maxL ret rm D cl cA sh n as S post := by
  intro ad sz
  refine Met.ofW (cc := cc) (maxL := maxL) (ret := ret) hy rfl ?_
  intro p e s m args below meth c s₁ B hml hv
  obtain ⟨rfl, hsz, hP, hK, hN, hi⟩ := hv
  subst hsz
  have hts := atoms_spec (ws := Cond.code y cc maxL ret :: mw_G tb) B.pre
  have hown : s.vm.findClass y.cls = some m.cls := findClass_of_methodNamed B.named
  have hl := lv_entry (as.map (mw_tv ad)) (n := maxL) (by rw [mw_words_len]; exact hlen)
  rw [mw_args_map] at hl
  rw [lg_entry_eq]
  exact body p e s m _ below meth c _ ad ⟨⟨B.exec, B.bytes, hml, hown, hts⟩, hN, hK, fun q h => Or.inr h, hi, fun hw k hk => Or.inl ⟨hw, k, _, mw_W_get hk⟩⟩ ⟨B.returns, B.notSynchronized, rfl⟩ s.heap [] _ hP va_S.rf hl
section MWC
variable {p : Program} {l : Launch} {e : Env} {R : Room} {s : State} {m : MethodId} {args : Array Value} {below : List Frame} {meth : Method} {c : Code} {Q : State → Prop} {cells slots : Nat}
variable {cc : ByteArray} {nL : Nat} {own : String} {b0 : Cond} {tb : List Cond} {D : va_G} {cl : List vw_C} {cA : Nat → ClassId} {A : Nat → Prop} {ad : Nat → Nat} {sh : Nat → mw_H} {n : Nat} {w w' : Bool}
variable {pc : Nat} {lv : List (Nat × mw_V)} {st : List mw_V} {S S0 : mw_S}
theorem mw_iret (C : mw_C p m c s args cc nL own b0 tb D cl cA A ad n w) {post : Int32 → mw_S → Prop} {v : Int32} (hR : meth.sig.returnType = some .int ∧ meth.locks = false ∧ A = mw_fr w (mw_W cA ad sh n S0) s.heap.size) (hd : decode cc pc = .ok (.ireturn, 1)) (hq : post v S) : mw p l e R s m args below meth c (MQ below (mw_Qc w D cl cA ad sh n s.heap.size S0 (mw_Pi post)) args s cells slots A) cells slots D cl cA A ad sh n nL (pc) (lv) ([.inl v]) (S) := fun H locs ls hP hS hl =>
  W.iret C.1.1 C.1.2.1 hR.1 (fun t ht _ => ⟨⟨some (.inl v), S, rfl, ⟨v, rfl, hq⟩, by rw [ht]; exact hP⟩, by have h9 := hS.F ht; rw [hR.2.2] at h9; exact h9⟩) hS.2.2 hd hR.2.1
theorem mw_zret (C : mw_C p m c s args cc nL own b0 tb D cl cA A ad n w) {post : Int32 → mw_S → Prop} {v : Int32} (hR : meth.sig.returnType = some .boolean ∧ meth.locks = false ∧ A = mw_fr w (mw_W cA ad sh n S0) s.heap.size) (hd : decode cc pc = .ok (.ireturn, 1)) (hb : narrow .boolean (.int v) = .int v) (hq : post v S) : mw p l e R s m args below meth c (MQ below (mw_Qc w D cl cA ad sh n s.heap.size S0 (mw_Pi post)) args s cells slots A) cells slots D cl cA A ad sh n nL (pc) (lv) ([.inl v]) (S) := fun H locs ls hP hS hl =>
  W.zret C.1.1 C.1.2.1 hR.1 hb (fun t ht _ => ⟨⟨some (.inl v), S, rfl, ⟨v, rfl, hq⟩, by rw [ht]; exact hP⟩, by have h9 := hS.F ht; rw [hR.2.2] at h9; exact h9⟩) hS.2.2 hd hR.2.1
theorem mw_lret (C : mw_C p m c s args cc nL own b0 tb D cl cA A ad n w) {post : Int64 → mw_S → Prop} {v : Int64} (hR : meth.sig.returnType = some .long ∧ meth.locks = false ∧ A = mw_fr w (mw_W cA ad sh n S0) s.heap.size) (hd : decode cc pc = .ok (.lreturn, 1)) (hq : post v S) : mw p l e R s m args below meth c (MQ below (mw_Qc w D cl cA ad sh n s.heap.size S0 (mw_Pl post)) args s cells slots A) cells slots D cl cA A ad sh n nL (pc) (lv) ([.inr (.inl v)]) (S) := fun H locs ls hP hS hl =>
  W.lret C.1.1 C.1.2.1 hR.1 (fun t ht _ => ⟨⟨some (.inr (.inl v)), S, rfl, ⟨v, rfl, hq⟩, by rw [ht]; exact hP⟩, by have h9 := hS.F ht; rw [hR.2.2] at h9; exact h9⟩) hS.2.2 hd hR.2.1
theorem mw_vret (C : mw_C p m c s args cc nL own b0 tb D cl cA A ad n w) {post : mw_S → Prop} (hR : meth.sig.returnType = none ∧ meth.locks = false ∧ A = mw_fr w (mw_W cA ad sh n S0) s.heap.size) (hd : decode cc pc = .ok (.return_, 1)) (hq : post S) : mw p l e R s m args below meth c (MQ below (mw_Qc w D cl cA ad sh n s.heap.size S0 (mw_Pv post)) args s cells slots A) cells slots D cl cA A ad sh n nL (pc) (lv) ([]) (S) := fun H locs ls hP hS hl =>
  W.vret C.1.1 C.1.2.1 hR.1 (fun t ht _ => ⟨⟨none, S, rfl, ⟨rfl, hq⟩, by rw [ht]; exact hP⟩, by have h9 := hS.F ht; rw [hR.2.2] at h9; exact h9⟩) hS.2.2 hd hR.2.1
/-- the callee's part of the caller's world -/
theorem mw_part {sh' : Nat → mw_H} {n' : Nat} {ix : List Nat} (hx : mw_ix sh' n' sh n ix) {H : Heap} (hP : va_P D cl (mw_W cA ad sh n S) H) : va_P D cl (mw_W cA (fun k => ad (mw_ixf ix k)) sh' n' (mw_rs S ix)) H := by
  intro k q hq
  obtain ⟨hk, rfl⟩ := mw_W_some hq
  obtain ⟨h1, h2, -⟩ := hx.2 k hk
  have h3 := hP (mw_ixf ix k) _ (mw_W_get h1)
  rw [mw_okc_e h2]
  exact h3
/-- a call is under way: the run of the callee, with the world ix out of this one's -/
def mw_Rn (w' : Bool) (p : Program) (l : Launch) (e : Env) (R : Room) (s : State) (m : MethodId) (args : Array Value) (below : List Frame) (meth : Method) (c : Code) (cells slots : Nat) (D : va_G) (cl : List vw_C) (cA : Nat → ClassId) (A : Nat → Prop) (ad : Nat → Nat) (sh : Nat → mw_H) (n nL pc : Nat) (lv : List (Nat × mw_V)) (st rest : List mw_V) (S : mw_S) (sh' : Nat → mw_H) (n' : Nat) (ix : List Nat) (post : Option mw_V → mw_S → Prop) : Prop :=
  ∀ (H : Heap) (locs : List Loc) (ls : Array Slot), va_P D cl (mw_W cA ad sh n S) H → lv_has ls nL (mw_lm ad lv) → ∃ a : Array Value, va_Run p l e R s m args below meth c H locs cells slots 0 0 (F0 m pc ls (st.map (mw_tv ad))) (rest.map (mw_tv ad)) (mw_Qc w' D cl cA (fun k => ad (mw_ixf ix k)) sh' n' H.size (mw_rs S ix) post a) (mw_fr w' (mw_W cA (fun k => ad (mw_ixf ix k)) sh' n' (mw_rs S ix)) H.size)
theorem mw_run (C : mw_C p m c s args cc nL own b0 tb D cl cA A ad n w) {sh' : Nat → mw_H} {n' : Nat} {ix : List Nat} {rest : List mw_V} {post : Option mw_V → mw_S → Prop} (hx : mw_ix sh' n' sh n ix) (hww : w' = true → w = true) (hr : mw_Rn w' p l e R s m args below meth c cells slots D cl cA A ad sh n nL pc lv st rest S sh' n' ix post)
    (k : ∀ (r : Option mw_V) (S1 : mw_S), post r S1 → mw p l e R s m args below meth c Q cells slots D cl cA A ad sh n nL (pc + 3) (lv) ((r.map (mw_rv ix)).toList ++ rest) (cond w' (mw_mg S ix S1) S)) : mw p l e R s m args below meth c Q cells slots D cl cA A ad sh n nL (pc) (lv) (st) (S) := by
  intro H locs ls hP hS hl T hT X
  obtain ⟨a, hrun⟩ := hr H locs ls hP hl
  obtain ⟨v, st₀, t, T', L, h0, X', hL, e1, e2, ⟨⟨r, S1, hv, hpost, hP1⟩, hF⟩, hgo⟩ := hrun T hT X
  have hA1 : ∀ q, mw_fr w' (mw_W cA (fun k => ad (mw_ixf ix k)) sh' n' (mw_rs S ix)) H.size q → A q := by
    intro q hq
    rcases hq with ⟨hw1, k, z, hz⟩ | hq
    · obtain ⟨hk, hz⟩ := mw_W_some hz
      have e9 : q = ad (mw_ixf ix k) := congrArg Prod.fst hz
      rw [e9]
      exact C.2.2.2.2.2 (hww hw1) _ (hx.2 k hk).1
    · exact C.2.2.2.1 q (Nat.le_trans hS.1 hq)
  have hF1 : ∀ q, q < H.size → ¬ mw_fr w' (mw_W cA (fun k => ad (mw_ixf ix k)) sh' n' (mw_rs S ix)) H.size q → T'.heap[q]? = H[q]? := fun q h1 h2 => by
    rw [e1, ← h0]
    exact hF.2 q (by rw [h0]; exact h1) h2
  have hsz : H.size ≤ T'.heap.size := by rw [e1, ← h0]; exact hF.1
  have hP2 : va_P D cl (mw_W cA ad sh n (cond w' (mw_mg S ix S1) S)) T'.heap := by
    cases w' with
    | false =>
      intro i q hq
      obtain ⟨hi, rfl⟩ := mw_W_some hq
      have h3 := hP i _ (mw_W_get hi)
      refine h3.kept (hF1 _ h3.lt ?_)
      rintro (⟨hw1, -⟩ | hq)
      · cases hw1
      · exact absurd h3.lt (Nat.not_lt.mpr hq)
    | true =>
      show va_P D cl (mw_W cA ad sh n (mw_mg S ix S1)) T'.heap
      intro i q hq
      obtain ⟨hi, rfl⟩ := mw_W_some hq
      cases hp : mw_pos ix i with
      | some k =>
        obtain ⟨hk, hik⟩ := mw_pos_lt hp
        rw [hx.1] at hk
        obtain ⟨-, h2, -⟩ := hx.2 k hk
        have h3 := hP1 k _ (mw_W_get hk)
        have e8 : mw_e cA (fun k => ad (mw_ixf ix k)) S1 k (sh' k) = mw_e cA ad (mw_mg S ix S1) i (sh i) := by
          have e7 : mw_e cA (fun k => ad (mw_ixf ix k)) S1 k (sh' k) = mw_e cA (fun k => ad (mw_ixf ix k)) (mw_rs (mw_mg S ix S1) ix) k (sh' k) := by
            refine mw_e_congr ?_ ?_ _
            · show S1.1 k = (mw_mg S ix S1).1 (mw_ixf ix k)
              simp only [mw_mg, hik, hp]
            · show S1.2 k = (mw_mg S ix S1).2 (mw_ixf ix k)
              simp only [mw_mg, hik, hp]
          rw [e7, mw_okc_e h2, hik]
        rw [e8] at h3
        have h4 : va_at D cl (ad i, mw_e cA ad (mw_mg S ix S1) i (sh i)) t.heap := by
          have e6 : ad (mw_ixf ix k) = ad i := by rw [hik]
          rw [← e6]; exact h3
        rw [e1]
        exact h4
      | none =>
        have h3 := hP i _ (mw_W_get hi)
        have e8 : mw_e cA ad (mw_mg S ix S1) i (sh i) = mw_e cA ad S i (sh i) := by
          refine mw_e_congr ?_ ?_ _
          · simp only [mw_mg, hp]
          · simp only [mw_mg, hp]
        rw [e8]
        refine h3.kept (hF1 _ h3.lt ?_)
        rintro (⟨-, k, z, hz⟩ | hq)
        · obtain ⟨hk, hz⟩ := mw_W_some hz
          have e9 : ad i = ad (mw_ixf ix k) := congrArg Prod.fst hz
          have e10 := C.2.2.2.2.1 _ _ hi (hx.2 k hk).1 e9
          rw [e10, (hx.2 k hk).2.2] at hp
          cases hp
        · exact absurd h3.lt (Nat.not_lt.mpr hq)
  have hS2 : va_S A s.heap T'.heap (locs ++ L) := by
    refine ⟨Nat.le_trans hS.1 hsz, fun q h1 h2 => ?_, fun q hq => ?_⟩
    · rw [hF1 q (Nat.lt_of_lt_of_le h1 hS.1) (fun h => h2 (hA1 q h))]
      exact hS.2.1 q h1 h2
    · rcases List.mem_append.mp hq with hq | hq
      · exact hS.2.2 q hq
      · exact hA1 _ (hL q hq)
  obtain ⟨t2, a1, b1⟩ := k r S1 hpost T'.heap (locs ++ L) ls hP2 hS2 hl T' rfl X'
  refine ⟨t2, hgo t2 ?_, b1⟩
  have ev : v = r.map (mw_tv (fun k => ad (mw_ixf ix k))) := by injection hv
  have es : ((r.map (mw_rv ix)).toList ++ rest).map (mw_tv ad) = v.toList ++ rest.map (mw_tv ad) := by
    rw [ev]
    cases r with
    | none => rfl
    | some z => show mw_tv ad (mw_rv ix z) :: rest.map (mw_tv ad) = _; rw [← mw_rv_tv]; rfl
  rw [es] at a1
  exact a1
theorem mw_runi (C : mw_C p m c s args cc nL own b0 tb D cl cA A ad n w) {sh' : Nat → mw_H} {n' : Nat} {ix : List Nat} {rest : List mw_V} {post : Int32 → mw_S → Prop} (hx : mw_ix sh' n' sh n ix) (hw1 : w = true) (hr : mw_Rn true p l e R s m args below meth c cells slots D cl cA A ad sh n nL pc lv st rest S sh' n' ix (mw_Pi post))
    (k : ∀ (x : Int32) (S1 : mw_S), post x S1 → mw p l e R s m args below meth c Q cells slots D cl cA A ad sh n nL (pc + 3) (lv) (.inl x :: rest) (mw_mg S ix S1)) : mw p l e R s m args below meth c Q cells slots D cl cA A ad sh n nL (pc) (lv) (st) (S) := mw_run C hx (fun _ => hw1) hr (fun r S1 h => by obtain ⟨x, rfl, h⟩ := h; exact k x S1 h)
theorem mw_runl (C : mw_C p m c s args cc nL own b0 tb D cl cA A ad n w) {sh' : Nat → mw_H} {n' : Nat} {ix : List Nat} {rest : List mw_V} {post : Int64 → mw_S → Prop} (hx : mw_ix sh' n' sh n ix) (hw1 : w = true) (hr : mw_Rn true p l e R s m args below meth c cells slots D cl cA A ad sh n nL pc lv st rest S sh' n' ix (mw_Pl post))
    (k : ∀ (x : Int64) (S1 : mw_S), post x S1 → mw p l e R s m args below meth c Q cells slots D cl cA A ad sh n nL (pc + 3) (lv) (.inr (.inl x) :: rest) (mw_mg S ix S1)) : mw p l e R s m args below meth c Q cells slots D cl cA A ad sh n nL (pc) (lv) (st) (S) := mw_run C hx (fun _ => hw1) hr (fun r S1 h => by obtain ⟨x, rfl, h⟩ := h; exact k x S1 h)
theorem mw_runv (C : mw_C p m c s args cc nL own b0 tb D cl cA A ad n w) {sh' : Nat → mw_H} {n' : Nat} {ix : List Nat} {rest : List mw_V} {post : mw_S → Prop} (hx : mw_ix sh' n' sh n ix) (hw1 : w = true) (hr : mw_Rn true p l e R s m args below meth c cells slots D cl cA A ad sh n nL pc lv st rest S sh' n' ix (mw_Pv post))
    (k : ∀ (S1 : mw_S), post S1 → mw p l e R s m args below meth c Q cells slots D cl cA A ad sh n nL (pc + 3) (lv) (rest) (mw_mg S ix S1)) : mw p l e R s m args below meth c Q cells slots D cl cA A ad sh n nL (pc) (lv) (st) (S) := mw_run C hx (fun _ => hw1) hr (fun r S1 h => by obtain ⟨rfl, h⟩ := h; exact k S1 h)
/-- callees that write nothing -/
theorem mw_run0i (C : mw_C p m c s args cc nL own b0 tb D cl cA A ad n w) {sh' : Nat → mw_H} {n' : Nat} {ix : List Nat} {rest : List mw_V} {post : Int32 → Prop} (hx : mw_ix sh' n' sh n ix) (hr : mw_Rn false p l e R s m args below meth c cells slots D cl cA A ad sh n nL pc lv st rest S sh' n' ix (mw_Pi (fun x _ => post x)))
    (k : ∀ (x : Int32), post x → mw p l e R s m args below meth c Q cells slots D cl cA A ad sh n nL (pc + 3) (lv) (.inl x :: rest) (S)) : mw p l e R s m args below meth c Q cells slots D cl cA A ad sh n nL (pc) (lv) (st) (S) := mw_run C hx (fun h => by cases h) hr (fun r S1 h => by obtain ⟨x, rfl, h⟩ := h; exact k x h)
theorem mw_run0l (C : mw_C p m c s args cc nL own b0 tb D cl cA A ad n w) {sh' : Nat → mw_H} {n' : Nat} {ix : List Nat} {rest : List mw_V} {post : Int64 → Prop} (hx : mw_ix sh' n' sh n ix) (hr : mw_Rn false p l e R s m args below meth c cells slots D cl cA A ad sh n nL pc lv st rest S sh' n' ix (mw_Pl (fun x _ => post x)))
    (k : ∀ (x : Int64), post x → mw p l e R s m args below meth c Q cells slots D cl cA A ad sh n nL (pc + 3) (lv) (.inr (.inl x) :: rest) (S)) : mw p l e R s m args below meth c Q cells slots D cl cA A ad sh n nL (pc) (lv) (st) (S) := mw_run C hx (fun h => by cases h) hr (fun r S1 h => by obtain ⟨x, rfl, h⟩ := h; exact k x h)
theorem mw_blind {as : List mw_V} {sz : Nat} : FrameBlind (mw_Pc D cl cA tb ad sh n sz as S) := fun a U g mk q => by
  obtain ⟨q0, q1, qP, qK, qN, qi⟩ := q
  exact ⟨q0, q1, qP, va_K.moved (u := U) (U := U.calling g mk a) (Vm.Alike.refl U.vm) qK, fun w hw => va_Nw.same (u := U) (U := U.calling g mk a) (mw_nk_tabs (List.mem_filter.mp hw).2) rfl (qN w hw), qi⟩
theorem mw_pre {sh' : Nat → mw_H} {n' : Nat} {ix : List Nat} {as : List mw_V} (C : mw_C p m c s args cc nL own b0 tb D cl cA A ad n w) (hx : mw_ix sh' n' sh n ix) {H : Heap} (hP : va_P D cl (mw_W cA ad sh n S) H) : ∀ U : State, U.heap = H → s.WarmedH U.vm → mw_Pc D cl cA tb (fun k => ad (mw_ixf ix k)) sh' n' H.size as (mw_rs S ix) ((as.map (mw_tv (fun k => ad (mw_ixf ix k)))).toArray) U := fun U hU hW =>
  ⟨rfl, by rw [hU], by rw [hU]; exact mw_part hx hP, va_K.moved hW.alike C.2.2.1, fun w hw => mw_nk_warm (List.mem_filter.mp hw).2 hW (C.2.1 w hw), fun i j hi hj h => by
    have h1 := C.2.2.2.2.1 _ _ (hx.2 i hi).1 (hx.2 j hj).1 h
    have h2 := (hx.2 i hi).2.2
    rw [h1, (hx.2 j hj).2.2] at h2
    exact (Option.some.inj h2).symm⟩
theorem mw_asr (ix : List Nat) (as rest : List mw_V) : (((as.map (mw_rv ix)).reverse ++ rest).map (mw_tv ad)) = (as.map (mw_tv (fun k => ad (mw_ixf ix k)))).reverse ++ rest.map (mw_tv ad) := by
  rw [List.map_append, List.map_reverse, List.map_map]
  congr 2
  exact List.map_congr_left (fun v _ => (mw_rv_tv ad ix v).symm)
theorem mw_sum_le {k : Nat} (h : mw_words st ≤ k) : ((st.map (mw_tv ad)).map fun v => v.category).sum ≤ k := by
  have e : ∀ st : List mw_V, ((st.map (mw_tv ad)).map fun v => v.category).sum = mw_words st := by
    intro st
    induction st with
    | nil => rfl
    | cons v t ih =>
      simp only [List.map_cons, List.sum_cons, ih, mw_words]
      cases h : mw_is2 v with
      | true => rw [mw_cat2 h]; rfl
      | false => rw [mw_cat1 h]; rfl
  rw [e]; exact h
/-- what a call's link and its callee's code rest on -/
def mw_KB (tb : List Cond) (own : String) (index : Nat) (y : MethodName) (bytes : ByteArray) (maxL : Nat) (ret : Option FieldType) (n : Nat) : Prop := Cond.code y bytes maxL ret ∈ mw_G tb ∧ Cond.initialized y.cls ∈ mw_G tb ∧ (y.cls ≠ "java/lang/invoke/MethodHandle" ∧ y.cls ≠ "java/lang/invoke/VarHandle" ∧ (parseMethodDescriptor y.desc).map (fun d => d.parameters.length) = some n) ∧ (Cond.methodLink own index y ∈ mw_G tb ∨ ∃ host, Cond.methodLinkNest own index y host ∈ mw_N tb)
theorem mw_invS (C : mw_C p m c s args cc nL own b0 tb D cl cA A ad n w) {index : Nat} {y : MethodName} {bytes : ByteArray} {maxL : Nat} {ret : Option FieldType} {np : Nat} {rm : Room} {sh' : Nat → mw_H} {n' : Nat} {ix : List Nat} {as rest : List mw_V} {post : Option mw_V → mw_S → Prop}
    (hM : mw_M w' l tb y bytes maxL ret rm D cl cA sh' n' as (mw_rs S ix) post) (hx : mw_ix sh' n' sh n ix) (hK : mw_KB tb own index y bytes maxL ret np) (hst : Cond.static y ∈ mw_G tb) (hd : decode cc pc = .ok (.invokestatic index, 3)) (hn : as.length = np) (hs : (as.map (mw_rv ix)).reverse ++ rest = st) (hrest : mw_words rest ≤ 8)
    (hrc : rm.cells = 0) (hrs : rm.slots = 0) (hR : rm.frames + 1 ≤ R.frames ∧ 8 + (maxL + 11) + rm.locals ≤ R.locals) (hc : cells ≤ R.cells ∧ slots ≤ R.slots) : mw_Rn w' p l e R s m args below meth c cells slots D cl cA A ad sh n nL pc lv st rest S sh' n' ix post := by
  subst hs
  intro H locs ls hP hl
  obtain ⟨k1, k2, k3, k4⟩ := hK
  have ht := C.1.2.2.2.2
  have hmem : ∀ w, w ∈ mw_G tb → w.before args s = true := fun w h => ht w (List.mem_cons_of_mem _ h)
  refine ⟨(as.map (mw_tv (fun k => ad (mw_ixf ix k)))).toArray, ?_⟩
  rcases k4 with k4 | ⟨host, k4⟩
  · exact va_runS C.1 (hM (fun k => ad (mw_ixf ix k)) H.size) ⟨callB_of np ht (mw_good k1) rfl hrc hrs (hmem _ k2) (hmem _ k4) k3 hR, hmem _ hst⟩ ⟨mw_blind, mw_pre C hx hP⟩ rfl (by rw [List.length_map]; exact hn) hl.1 (mw_asr ix as rest) (lv_room (mw_sum_le hrest)) hd hc
  · exact va_runSN C.1 (hM (fun k => ad (mw_ixf ix k)) H.size) ⟨va_cnB np ht (mw_good k1) rfl hrc hrs (C.2.1 _ k4) (hmem _ k2) k3 hR, hmem _ hst, trivial⟩ ⟨mw_blind, mw_pre C hx hP⟩ rfl (by rw [List.length_map]; exact hn) hl.1 (mw_asr ix as rest) (lv_room (mw_sum_le hrest)) hd hc
theorem mw_invV (C : mw_C p m c s args cc nL own b0 tb D cl cA A ad n w) {index : Nat} {y : MethodName} {bytes : ByteArray} {maxL : Nat} {ret : Option FieldType} {np : Nat} {rm : Room} {sh' : Nat → mw_H} {n' : Nat} {ix : List Nat} {kk : Nat} {as rest : List mw_V} {post : Option mw_V → mw_S → Prop} {ci : Nat} {T : u_T} {N : Nat} {fk : List (Nat ⊕ Nat)}
    (hM : mw_M w' l tb y bytes maxL ret rm D cl cA sh' n' (.inr (.inr kk) :: as) (mw_rs S ix) post) (hx : mw_ix sh' n' sh n ix) (hK : mw_KB tb own index y bytes maxL ret np) (hin : Cond.instanceMethod y ∈ mw_G tb) (hse : Cond.selects y.cls y y ∈ mw_G tb) (hkk : kk < n') (hsh : sh' kk = .inr (ci, fk)) (hci : cl[ci]? = some (y.cls, T, N)) (hd : decode cc pc = .ok (.invokevirtual index, 3)) (hn : as.length = np) (hs : (as.map (mw_rv ix)).reverse ++ .inr (.inr (mw_ixf ix kk)) :: rest = st) (hrest : mw_words rest ≤ 8)
    (hrc : rm.cells = 0) (hrs : rm.slots = 0) (hR : rm.frames + 1 ≤ R.frames ∧ 8 + (maxL + 11) + rm.locals ≤ R.locals) (hc : cells ≤ R.cells ∧ slots ≤ R.slots) : mw_Rn w' p l e R s m args below meth c cells slots D cl cA A ad sh n nL pc lv st rest S sh' n' ix post := by
  subst hs
  intro H locs ls hP hl
  obtain ⟨k1, k2, k3, k4⟩ := hK
  have ht := C.1.2.2.2.2
  have hmem : ∀ w, w ∈ mw_G tb → w.before args s = true := fun w h => ht w (List.mem_cons_of_mem _ h)
  have hrecv := va_recv C.2.2.1 (mw_part hx hP) hci (show (mw_W cA (fun k => ad (mw_ixf ix k)) sh' n' (mw_rs S ix))[kk]? = some (ad (mw_ixf ix kk), .inr (ci, _)) by rw [mw_W_get hkk, hsh]; rfl)
  refine ⟨((.inr (.inr kk) :: as).map (mw_tv (fun k => ad (mw_ixf ix k)))).toArray, ?_⟩
  have hstk : (((as.map (mw_rv ix)).reverse ++ .inr (.inr (mw_ixf ix kk)) :: rest).map (mw_tv ad)) = (as.map (mw_tv (fun k => ad (mw_ixf ix k)))).reverse ++ .ref (ad (mw_ixf ix kk)) :: rest.map (mw_tv ad) := mw_asr ix as (.inr (.inr (mw_ixf ix kk)) :: rest)
  rcases k4 with k4 | ⟨host, k4⟩
  · exact va_runV (As := as.map (mw_tv (fun k => ad (mw_ixf ix k)))) C.1 (hM (fun k => ad (mw_ixf ix k)) H.size) ⟨callB_of np ht (mw_good k1) rfl hrc hrs (hmem _ k2) (hmem _ k4) k3 hR, hmem _ hin, hmem _ hse⟩ ⟨mw_blind, hrecv, mw_pre C hx hP⟩ rfl (by rw [List.length_map]; exact hn) hl.1 hstk (lv_room (mw_sum_le hrest)) hd hc
  · exact va_runVN (As := as.map (mw_tv (fun k => ad (mw_ixf ix k)))) C.1 (hM (fun k => ad (mw_ixf ix k)) H.size) ⟨va_cnB np ht (mw_good k1) rfl hrc hrs (C.2.1 _ k4) (hmem _ k2) k3 hR, hmem _ hin, hmem _ hse⟩ ⟨mw_blind, hrecv, mw_pre C hx hP⟩ rfl (by rw [List.length_map]; exact hn) hl.1 hstk (lv_room (mw_sum_le hrest)) hd hc
end MWC
